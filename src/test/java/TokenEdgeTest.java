/** Edges of TOKENS: NAMES, NUMBERS, STRINGS and SIGNS, each as long as it goes and no longer. */
public final class TokenEdgeTest {
    private static final String NAME64 = "n" + "_aZ0".repeat(15) + "end";

    private static Case some;
    private static int texts;

    public static void main(String[] args) {
        names();
        systemNames();
        plainNumbers();
        widths();
        bases();
        digits();
        decimals();
        filled();
        strings();
        signs();
        lastToken();
        Case.close();
    }

    private static boolean isLetter(int c) {
        return c >= 'a' && c <= 'z' || c >= 'A' && c <= 'Z' || c == '_';
    }

    private static boolean isDigit(int c) {
        return c >= '0' && c <= '9';
    }

    private static boolean isSpace(int c) {
        return c == 9 || c == 10 || c == 13 || c == 32;
    }

    /** A text that is right or has fault 1 somewhere; an object is used for some of them. */
    private static void either(boolean right, String text) {
        Case c = some();
        c.feed(text);
        int number = 0;
        try {
            c.theatre.build();
        } catch (IllegalStateException e) {
            number = c.theatre.fault(0);
        }
        c.due("fault of [" + text + "]", number, right ? 0 : 1);
    }

    private static Case some() {
        if (texts % 32 == 0) {
            some = new Case("one of many texts");
        }
        texts++;
        return some;
    }

    /** "NAME (a letter or _, then letters, digits, _; at most 64)." */
    private static void names() {
        for (int c = 0; c < 256; c++) {
            either(isLetter(c) || isSpace(c), "module t;reg " + (char) c + "q;endmodule");
            either(isLetter(c) || isDigit(c) || isSpace(c), "module t;reg q" + (char) c + ";endmodule");
        }
        Case c = Case.of("64", "module t; reg " + NAME64 + "; endmodule");
        c.dueText("name", c.name(0), NAME64);
        Case.edge("at most 64", 1, "module t; reg " + NAME64 + "; endmodule",
                "module t; reg " + NAME64 + "\u00a7s; endmodule");
        Case.edge("a 65th digit", 1, "module " + NAME64 + "; endmodule", "module " + NAME64 + "\u00a70; endmodule");
        Case.of("capitals", "module t; reg a, A; initial begin a = 0; A = 1; end endmodule").run(9, 2)
                .is(0, "0").is(1, "1");
    }

    /** "$NAME ($ and a NAME)." */
    private static void systemNames() {
        Case.edge("$ and a NAME", 1, "module t; initial $finish; endmodule", "module t; initial $\u00a7 finish; endmodule");
        Case.edge("no digit", 1, "module t; initial $display; endmodule", "module t; initial $\u00a71; endmodule");
        Case.edge("at the end", 1, "module t; initial $write; endmodule", "module t; initial $\u00a7");
        Case.edge("another one", 1, "module t; initial $write; endmodule", "module t; initial \u00a7$write_; endmodule");
        Case.edge("capitals", 1, "module t; initial $write; endmodule", "module t; initial \u00a7$Write; endmodule");
        Case.edge("64", 1, "module t; initial $write; endmodule", "module t; initial \u00a7$" + NAME64 + "; endmodule");
        Case.edge("65", 1, "module t; initial $write; endmodule", "module t; initial $" + NAME64 + "\u00a7x; endmodule");
    }

    private static void number(String right, String wrongMarked) {
        Case.edge(right, 1, "module t; localparam a = " + right + "; endmodule",
                "module t; localparam a = " + wrongMarked + "; endmodule");
    }

    /** "digits (and _ from the second place on): below 2^31." */
    private static void plainNumbers() {
        number("2147483647", "214748364\u00a78");
        number("2_147_483_647", "2_147_483_64\u00a78");
        number("0000000000000000000002147483647", "000000000000000000000214748365\u00a70");
        number("999999999", "999999999\u00a79999");
        number("1__0_", "1 \u00a7_1");
        Case c = Case.of("digits", "module t; reg [63:0] a, b; initial begin a = 2147483647; b = 1__0_; end endmodule");
        c.run(9, 2).due("value", c.theatre.value(0, 0, 0), 2147483647);
        c.due("value", c.theatre.value(1, 0, 0), 10);
    }

    /** "The first digits are its WIDTH, 1 .. 64 (behind others a ' can't go on), 32 without." */
    private static void widths() {
        number("1'b1", "0\u00a7'b1");
        number("64'b1", "65\u00a7'b1");
        number("0_1'b1", "00\u00a7'b1");
        number("0000006_4'b1", "2147483647\u00a7'b1");
        number("'b1", "1 \u00a7'b1");
        String[] texts = {"1'b1", "64'b1", "064'b1", "'b1", "'sd1", "1"};
        int[] widths = {1, 64, 64, 32, 32, 32};
        for (int k = 0; k < texts.length; k++) {
            Case.of(texts[k], "module t; initial $write(\"%b\", " + texts[k] + "); endmodule").run(9, 2)
                    .logs("0".repeat(widths[k] - 1) + "1");
        }
    }

    /** "', s or none, b, o, d or h (or these in capitals)." */
    private static void bases() {
        for (int c = 0; c < 256; c++) {
            String text = "module t;localparam a=1'" + (char) c + "1;endmodule";
            boolean base = "bodhBODH".indexOf(c) >= 0;
            if (base) {
                either(true, text);
            } else {
                some().faulty(1, c == 's' || c == 'S' ? 25 : 24, text);
            }
            String signed = "module t;localparam a=1's" + (char) c + "1;endmodule";
            if (base) {
                either(true, signed);
            } else {
                some().faulty(1, 25, signed);
            }
        }
        number("4'Sd1", "4's\u00a7sd1");
    }

    /** "then a digit of that base and digits of it or _ (for b, o, h also x, z, ? and X, Z as digits ..)." */
    private static void digits() {
        String[] bases = {"b", "o", "h", "d"};
        String[] digits = {"01", "01234567", "0123456789abcdefABCDEF", "0123456789"};
        for (int k = 0; k < 4; k++) {
            String start = "module t;initial $write(\"%h\",64'" + bases[k];
            for (int c = 0; c < 256; c++) {
                boolean plain = digits[k].indexOf(c) >= 0;
                boolean odd = "xzXZ?".indexOf(c) >= 0;
                either(plain || odd, start + (char) c + ");endmodule");
                boolean second = plain || odd && k < 3 || c == '_' || isSpace(c);
                either(second, start + "1" + (char) c + ");endmodule");
                if (!plain && !odd) {
                    some().faulty(1, start.length(), start + (char) c + ");endmodule");
                }
            }
        }
        Case c = new Case("as long as it goes");
        c.build("module t; localparam a = 4'd1?2:3; endmodule");
        c.build("module t; reg a; initial a = 4'dx?2:3; endmodule");
        c.faulty(1, "module t; localparam a = 4'b1?\u00a72:3; endmodule");
        c.build("module t; localparam a = 4'b1 ?2:3; endmodule");
        c.faulty(1, "module t; localparam a = 'ha\u00a7g; endmodule");
        c.faulty(1, "module t; localparam a = 'o7\u00a78; endmodule");
    }

    /** "for d below 2^64, or just one x, X, z, Z or ? and no more." */
    private static void decimals() {
        number("'d18446744073709551615 == 0", "'d1844674407370955161\u00a76");
        number("1'd18446744073709551615", "1'd1844674407370955162\u00a70");
        number("'d00_18446744073709551615 == 0", "'d00_1844674407370955161\u00a79_9");
        number("'d9999999999999999999 == 0", "'d9999999999999999999\u00a79");
        String[] wrong = {"4'dx\u00a7x", "4'dX\u00a7_", "4'dz\u00a71", "4'dZ\u00a7z", "4'd?\u00a70", "4'd1\u00a7x", "4'd1_\u00a7z"};
        for (String one : wrong) {
            new Case(one).faulty(1, "module t; reg a; initial a = " + one + "; endmodule");
        }
        Case.of("just one", "module t; initial $write(\"%b%b%b%b%b\", 2'dx, 2'dX, 2'dz, 2'dZ, 2'd?); endmodule")
                .run(9, 2).logs("xxxxzzzzzz");
    }

    /** "digits that don't fit are cut from above; less than WIDTH: filled with 0, or with x or z .." */
    private static void filled() {
        String[][] pairs = {{"4'hff", "1111"}, {"1'b10", "0"}, {"4'bx0001", "0001"}, {"4'bx001", "x001"},
            {"4'bx01", "xx01"}, {"4'b0x1", "00x1"}, {"4'bz", "zzzz"}, {"5'oz7", "zz111"}, {"5'ox", "xxxxx"},
            {"2'ox", "xx"}, {"5'h?f", "z1111"}, {"3'd8", "000"}, {"3'd7", "111"},
            {"64'hx", "x".repeat(64)}, {"64'h10000000000000000", "0".repeat(64)},
            {"64'hz_0000_0000_0000_000", "zzzz" + "0".repeat(60)}, {"64'bx1", "x".repeat(63) + "1"},
            {"64'h8000_0000_0000_0000", "1" + "0".repeat(63)}, {"4'sb1", "0001"}, {"4'shx", "xxxx"},
            {"64'o1777777777777777777777", "1".repeat(64)}, {"64'o7777777777777777777777", "1".repeat(64)}};
        for (String[] pair : pairs) {
            Case.of(pair[0], "module t; initial $write(\"%b\", " + pair[0] + "); endmodule").run(9, 2).logs(pair[1]);
        }
        // Signed with s, or without a ': brought to 8 bits by the highest bit then.
        String[][] signs = {{"4'sb1000", "11111000"}, {"4'b1000", "00001000"}, {"4'sd8", "11111000"},
            {"4'shz", "zzzzzzzz"}, {"4'dz", "0000zzzz"}, {"-1", "11111111"}};
        for (String[] pair : signs) {
            Case.of(pair[0], "module t; reg [7:0] a; initial a = " + pair[0] + "; endmodule").run(9, 2).is(0, pair[1]);
        }
        Case.of("without a '", "module t; reg [63:0] a; initial a = -1; endmodule").run(9, 2).is(0, "1".repeat(64));
        Case.of("with a '", "module t; reg [63:0] a; initial a = 'hffffffff; endmodule").run(9, 2)
                .is(0, "0".repeat(32) + "1".repeat(32));
        Case.of("with s", "module t; reg [63:0] a; initial a = 'shffffffff; endmodule").run(9, 2).is(0, "1".repeat(64));
    }

    /** "STRING (" and bytes 32 .. 126 but ", then "; \ and one byte in it: \n is a byte 10, else that byte)." */
    private static void strings() {
        String start = "module t;initial $write(\"";
        for (int c = 0; c < 256; c++) {
            String text = start + (char) c + "\");endmodule";
            if (c == '"' || c == '\\') {
                some().faulty(1, text.length(), text);
            } else if (c < 32 || c > 126) {
                some().faulty(1, start.length(), text);
            } else {
                Case.of("byte " + c, text).run(9, 2).logs("" + (char) c);
            }
            if (c >= 32 && c <= 126) {
                Case.of("byte " + c, start + "\\" + (char) c + "\");endmodule").run(9, 2)
                        .logs(c == 'n' ? "\n" : "" + (char) c);
            }
        }
        Case c = new Case("not closed");
        c.build(start + "\");endmodule");
        c.faulty(1, start + "abc\u00a7");
        c.faulty(1, start + "\\\u00a7");
        c.faulty(1, start + "\\\"\u00a7");
        c.faulty(1, start + "a\u00a7\n\");endmodule");
        c.faulty(1, start + "a\u00a7\t");
        c.build(start + "/*\");/*\"*/endmodule//\"");
        c.build(start + "//\");endmodule");
        c.run(9, 2).logs("//");
    }

    /** SIGNS, "each as long as it goes". */
    private static void signs() {
        String[][] pairs = {{"1'b1&&&2'b11", "1"}, {"1'b0|||2'b00", "0"}, {"2'b01~^~2'b01", "00"}, {"2'b01^~2'b01", "11"},
            {"4'b1<<<1", "0010"}, {"4'sb1000>>>1", "1100"}, {"4'b1<<1", "0010"}, {"4'b1000>>1", "0100"}, {"1<-1", "0"},
            {"1<=-1", "0"}, {"1>=~1", "1"}, {"1'bx===1'bx", "1"}, {"1'bx!==1'bx", "0"}, {"1==1", "1"}, {"1!=1", "0"},
            {"!!2'b10", "1"}, {"!(~&2'b10)", "0"}, {"~|2'b00", "1"}, {"~~2'b10", "10"}, {"1'b1&~1'b0", "1"},
            {"~&~2'b00", "0"}, {"1'b1|~|2'b10", "1"}};
        for (String[] pair : pairs) {
            Case.of(pair[0], "module t; initial $write(\"%b\", " + pair[0] + "); endmodule").run(9, 2).logs(pair[1]);
        }
        String[] wrong = {"1\u00a7=1", "1===\u00a7=1", "1!==\u00a7=1", "1<<<\u00a7<1", "1>>>\u00a7>1", "1&&\u00a7&&1",
            "1||\u00a7||1", "1\u00a7~&1", "1\u00a7~|1", "1\u00a7~1", "1\u00a7!1", "1== \u00a7=1", "1< \u00a7<1", "1> \u00a7>1",
            "1\u00a7= ==1", "1\u00a7! =1", "1< \u00a7=1", "1> \u00a7=1", "\u00a7`1", "\u00a7\\1"};
        for (String one : wrong) {
            new Case(one).faulty(1, "module t; reg a; initial a = " + one + "; endmodule");
        }
    }

    /** "TOKENS are cut first; where that fails there's a last one, wrong anywhere." */
    private static void lastToken() {
        Case c = new Case("the last TOKEN");
        // A wrong TOKEN before it counts first.
        c.faulty(1, "module t; \u00a7; reg 0'b1; endmodule");
        c.faulty(1, "module t; \u00a7; \\ endmodule");
        // It is wrong as a whole, at the CHARACTER that can't go on.
        c.faulty(1, "module t; 65\u00a7'b1; endmodule");
        c.faulty(1, "module t; 214748364\u00a78; endmodule");
        c.faulty(1, "module t; " + NAME64 + "\u00a7x y(); endmodule");
        c.faulty(1, "module t; endmodule \u00a7\\");
        c.faulty(1, "module t; endmodule \"\u00a7");
        c.faulty(1, "module t; endmodule /*\u00a7");
        c.faulty(1, "module t; endmodule 8'\u00a7");
        c.faulty(1, "module t; endmodule 8'b\u00a7");
        c.faulty(1, "module t; endmodule \u00a78");
    }
}
