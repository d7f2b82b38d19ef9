import java.math.BigInteger;

/** Edges of $display, $write and LOG. */
public final class ShowEdgeTest {
    public static void main(String[] args) {
        places();
        bits();
        fours();
        unclearDecimals();
        bytes();
        times();
        arguments();
        percents();
        fullLog();
        readLog();
        Case.close();
    }

    private static void shows(String statement, String want) {
        Case.of(statement, "module t; initial " + statement + " endmodule").run(99, 2).logs(want);
    }

    private static String padded(String digits, int places) {
        return " ".repeat(Math.max(0, places - digits.length())) + digits;
    }

    /** "with spaces before up to as many as 2^WIDTH - 1 has digits (signed: as 2^(WIDTH - 1) - 1, and one more)." */
    private static void places() {
        for (int width = 1; width <= 64; width++) {
            BigInteger most = BigInteger.ONE.shiftLeft(width).subtract(BigInteger.ONE);
            BigInteger half = BigInteger.ONE.shiftLeft(width - 1);
            int places = most.toString().length();
            int signedPlaces = half.subtract(BigInteger.ONE).toString().length() + 1;
            String plain = width + "'h" + most.toString(16);
            String least = width + "'sh" + half.toString(16);
            String greatest = width + "'sh" + half.subtract(BigInteger.ONE).toString(16);
            shows("$write(\"%d|%0d|%d|%0d\", " + plain + ", " + plain + ", " + width + "'d0, " + width + "'d0);",
                    most + "|" + most + "|" + padded("0", places) + "|0");
            shows("$write(\"%d|%0d|%d|%0d|%d\", " + least + ", " + least + ", " + greatest + ", " + greatest + ", " + width
                    + "'sd0);",
                    padded("-" + half, signedPlaces) + "|-" + half + "|" + padded("" + half.subtract(BigInteger.ONE), signedPlaces)
                            + "|" + half.subtract(BigInteger.ONE) + "|" + padded("0", signedPlaces));
            shows("$write(" + plain + ", " + width + "'bx, " + width + "'sbz);",
                    most + padded("x", places) + padded("z", signedPlaces));
        }
    }

    /** "%b all bits, x and z", "%0b ..: zeros at the beginning left out but for the last place." */
    private static void bits() {
        String[][] pairs = {{"1'b0", "0", "0"}, {"1'b1", "1", "1"}, {"4'b0000", "0000", "0"}, {"4'b0001", "0001", "1"},
                {"4'b0x01", "0x01", "x01"},
            {"4'b00z0", "00z0", "z0"}, {"4'bx000", "x000", "x000"}, {"64'b0", "0".repeat(64), "0"},
            {"64'h8000000000000000", "1" + "0".repeat(63), "1" + "0".repeat(63)}, {"64'bz", "z".repeat(64), "z".repeat(64)},
                    {"4'sb1000", "1000", "1000"}};
        for (String[] pair : pairs) {
            shows("$write(\"%b|%0b\", " + pair[0] + ", " + pair[0] + ");", pair[1] + "|" + pair[2]);
        }
    }

    /** "%h by fours (all x: x, all z: z, else with an x: X, with a z: Z)." */
    private static void fours() {
        String[][] pairs = {{"4'hf", "f", "f"}, {"4'ha", "a", "a"}, {"4'h9", "9", "9"}, {"4'h0", "0", "0"}, {"8'h0f", "0f",
                "f"}, {"8'h00", "00", "0"},
            {"4'bxxxx", "x", "x"}, {"4'bzzzz", "z", "z"}, {"4'bxxxz", "X", "X"}, {"4'bzzz0", "Z", "Z"}, {"4'bzx01", "X", "X"},
                    {"4'b1z11", "Z", "Z"},
            {"4'b000x", "X", "X"}, {"8'b0000000x", "0X", "X"}, {"8'b0000zzzz", "0z", "z"}, {"12'b0000_zzzz_0000", "0z0", "z0"},
                    {"5'b11111", "1f", "1f"},
            {"5'b00000", "00", "0"}, {"5'b01111", "0f", "f"}, {"1'b1", "1", "1"}, {"1'bx", "x", "x"}, {"2'bz0", "Z", "Z"},
                    {"3'b111", "7", "7"},
            {"64'hfedcba9876543210", "fedcba9876543210", "fedcba9876543210"}, {"61'h1000000000000001", "1000000000000001",
                    "1000000000000001"}};
        for (String[] pair : pairs) {
            shows("$write(\"%h|%0h\", " + pair[0] + ", " + pair[0] + ");", pair[1] + "|" + pair[2]);
        }
    }

    /** "with all x: x, all z: z, some x: X, else Z, likewise." */
    private static void unclearDecimals() {
        String[][] pairs = {{"8'bx", "  x", "x"}, {"8'bz", "  z", "z"}, {"8'bxxxxxxx0", "  X", "X"}, {"8'bzzzzzzz1", "  Z",
                "Z"}, {"8'bxzzzzzzz", "  X", "X"},
            {"8'b0000000z", "  Z", "Z"}, {"1'bx", "x", "x"}, {"1'sbz", " z", "z"}, {"64'bx1", " ".repeat(19) + "X", "X"}};
        for (String[] pair : pairs) {
            shows("$write(\"%d|%0d\", " + pair[0] + ", " + pair[0] + ");", pair[1] + "|" + pair[2]);
        }
    }

    /** "%c the byte of the lowest eight bits (x, z as 0)." */
    private static void bytes() {
        shows("$write(\"%c%c%c%c\", 8'd65, 16'h4142, 1'b1, 8'b0100x1z1);", "AB\u0001E");
        shows("$write(\"%c%c%0c\", 8'd255, 8'bx, 8'd128);", "\u00ff\u0000\u0080");
        shows("$write(\"%c%c\", -1, 64'hffffffffffffff00);", "\u00ff\u0000");
    }

    /** "%t as %d, 20 places." */
    private static void times() {
        shows("$write(\"%t|%0t\", $time, $time);", " ".repeat(19) + "0|0");
        shows("#1000000000 $write(\"%t|%0t|%d\", $time, $time, $time);", padded("1000000000", 20) + "|1000000000|"
                + padded("1000000000", 20));
        shows("$write(\"%t\", 64'd18446744073709551615);", "18446744073709551615");
        shows("$write(\"%t|%0t\", 64'sh8000000000000000, -5);", "-9223372036854775808|-5");
        shows("$write(\"%t%t%t\", 1'b1, 4'bx, 4'bz1);", padded("1", 20) + padded("x", 20) + padded("Z", 20));
    }

    /** "(if the next one is no EXPR, or there's none: x is written, none taken)." */
    private static void arguments() {
        shows("$write(\"%d\");", "x");
        shows("$write(\"%d%0b%h%c%0t\");", "xxxxx");
        shows("$write(\"%0d\", 3'd5);", "5");
        shows("$write(\"%0d%0d\", 3'd5);", "5x");
        shows("$write(\"%0d\", \"%0d\", 3'd5);", "x5");
        shows("$write(\"%0d\", \"a\", 3'd5);", "xa5");
        shows("$write(\"a\", 3'd5, \"b\");", "a5b");
        shows("$write(3'd5, \"%0d\", 3'd6);", "56");
        shows("$write(3'd1, 3'd2, 3'd3);", "123");
        shows("$write(\"%0d\", 3'd1, 3'd2);", "12");
        shows("$write(\"\");", "");
        shows("$display(\"\");", "\n");
        shows("begin $display; $write; $display(1'b1); end", "\n1\n");
        shows("$write(1);", "          1");
    }

    /** "%0d and so on the same .., %% is %; any other % stands for itself." */
    private static void percents() {
        shows("$write(\"%%\");", "%");
        shows("$write(\"%%d\", 1'b1);", "%d1");
        shows("$write(\"%%%d\", 1'b1);", "%1");
        shows("$write(\"%\");", "%");
        shows("$write(\"%\", \"d\", 1'b1);", "%d1");
        shows("$write(\"%0\", 1'b1);", "%01");
        shows("$write(\"%0%d\", 1'b1);", "%01");
        shows("$write(\"%00d\", 1'b1);", "%00d1");
        shows("$write(\"%1d\", 1'b1);", "%1d1");
        shows("$write(\"% d\", 1'b1);", "% d1");
        for (char c = 32; c < 127; c++) {
            if ("\"\\%".indexOf(c) >= 0) {
                continue;
            }
            boolean known = "dbhct".indexOf(c) >= 0;
            String shown = c == 't' ? " ".repeat(19) + "1" : c == 'c' ? "\u0001" : "1";
            shows("$write(\"[%" + c + "]\", 1'b1);", known ? "[" + shown + "]" : "[%" + c + "]1");
            if (c != '0') {
                shows("$write(\"[%0" + c + "]\", 1'b1);", known ? "[" + shown.trim().replaceAll("^$", "\u0001") + "]" : "[%0"
                        + c + "]1");
            }
        }
    }

    /** "LOG: what's written, at most 32768 bytes; what is beyond is lost." */
    private static void fullLog() {
        String hundred = "0123456789".repeat(10);
        String start = "module t; initial begin repeat (327) $write(\"" + hundred + "\"); ";
        Case exact = Case.of("32768", start + "$write(\"" + hundred.substring(0, 68) + "\"); end endmodule").run(20000,
                2).count(4, 32768);
        exact.due("the last byte", exact.theatre.log(32767), '7');
        Case one = Case.of("32769", start + "$write(\"" + hundred.substring(0, 67)
                + "\"); $display(\"ab\"); $write(\"c\"); end endmodule");
        one.run(20000, 2).count(4, 32768).due("the last byte", one.theatre.log(32767), 'a');
        one.refusedUnchanged("log(32768)", IndexOutOfBoundsException.class, () -> one.theatre.log(32768));
        Case number = Case.of("in the midst", start + "$write(\"" + hundred.substring(0, 60)
                + "\"); $write(\"%b\", 64'bx); end endmodule");
        number.run(20000, 2).count(4, 32768).due("the last byte", number.theatre.log(32767), 'x');
        number.due("before it", number.theatre.log(32759), '9');
        // It goes on without it.
        Case more = Case.of("goes on", start + "repeat (3) $write(\"" + hundred + "\"); $finish; end endmodule");
        more.run(20000, 1).count(4, 32768);
        more.build("module t; initial $write(\"n\"); endmodule");
        more.count(4, 0).run(9, 2).logs("n");
    }

    /** "Byte i of LOG. Not there: IndexOutOfBoundsException." */
    private static void readLog() {
        Case c = new Case("log");
        c.refusedUnchanged("log(0)", IndexOutOfBoundsException.class, () -> c.theatre.log(0));
        c.build("module t; initial begin $write(\"%c\", 8'd200); #1 $write(\"b\"); end endmodule");
        c.refusedUnchanged("log(0)", IndexOutOfBoundsException.class, () -> c.theatre.log(0));
        c.run(3, 0).due("log(0)", c.theatre.log(0), 200);
        int[] wrong = {1, 2, -1, 32767, 32768, Integer.MAX_VALUE, Integer.MIN_VALUE};
        for (int i : wrong) {
            c.refusedUnchanged("log(" + i + ")", IndexOutOfBoundsException.class, () -> c.theatre.log(i));
        }
        c.run(9, 2).due("log(1)", c.theatre.log(1), 'b');
        c.refusedUnchanged("log(2)", IndexOutOfBoundsException.class, () -> c.theatre.log(2));
        c.faulty(1, 0, "").due("log(1) stays", c.theatre.log(1), 'b');
    }
}
