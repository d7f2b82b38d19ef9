/** Promise 11: LOG, and how $display and $write write. */
public final class LogTest {
    public static void main(String[] args) {
        formats();
        signs();
        arguments();
        bounds();
        Case.close();
    }

    private static void shows(String statements, String want) {
        Case.of(statements, "module t; reg [7:0] a; reg signed [7:0] s; reg [4:0] f; reg b; "
                + "reg [3:0] m[0:1]; initial begin " + statements + " end endmodule")
                .run(1000, 2).logs(want);
    }

    private static void formats() {
        shows("a = 10; $write(\"%d|%0d|%b|%0b|%h|%0h|%c|%t|%0t\", a, a, a, a, a, a, a, a, a);",
                " 10|10|00001010|1010|0a|a|\n|                  10|10");
        shows("a = 0; $write(\"%d|%0d|%b|%0b|%h|%0h\", a, a, a, a, a, a);", "  0|0|00000000|0|00|0");
        shows("a = 8'bxxxx_zzzz; $write(\"%d|%0d|%b|%h\", a, a, a, a);", "  X|X|xxxxzzzz|xz");
        shows("a = 8'b0000_00z1; $write(\"%d|%0b|%0h|%h\", a, a, a, a);", "  Z|z1|Z|0Z");
        shows("a = 8'bxz00_0x11; $write(\"%d|%h|%c|\", a, a, a);", "  X|XX|\u0003|");
        shows("$write(\"%d|%t|%0d\", a, a, a);", "  x|                   x|x");
        shows("a = 8'bz; $write(\"%d|%h\", a, a);", "  z|zz");
        shows("f = 5'bx_0000; $write(\"%h|%0h|\", f, f); f = 5'bz_000x; $write(\"%h|%h\", f, b);", "x0|x0|zX|x");
        shows("a = 255; $write(\"%h%c\", a, a);", "ff\u00ff");
        shows("$write(\"%c\", 16'h4142);", "B");
    }

    private static void signs() {
        shows("s = -1; $write(\"%d|%0d|%b|%h|%t\", s, s, s, s, s);", "  -1|-1|11111111|ff|                  -1");
        shows("s = -128; $write(\"%d|%0d\", s, s);", "-128|-128");
        shows("s = 127; $write(\"%d|%d\", s, $unsigned(s));", " 127|127");
        shows("$write(\"%d|%d|%d\", 1'sb1, 1'b1, 2'sb10);", "-1|1|-2");
        shows("$write(\"%d|\", 5, -5);", "          5|         -5");
        shows("$write(\"%d|%d\", 64'd18446744073709551615, 64'sh8000000000000000);",
                "18446744073709551615|-9223372036854775808");
        shows("$write(\"%d|%d\", 64'd1, 64'sd1);", "                   1|                   1");
        shows("$write(\"%d|%d|%d\", 4'd9, 3'd7, 10'd1023);", " 9|7|1023");
    }

    private static void arguments() {
        shows("$display;", "\n");
        shows("$write;", "");
        shows("$display(\"a\"); $write(\"b\"); $display(\"c\", \"d\");", "a\nbcd\n");
        shows("a = 5; $display(a, \"x\", a + 1);", "  5x         6\n");
        shows("a = 5; $display(\"%d\", \"s\", a);", "xs  5\n");
        shows("a = 5; $display(\"%d %b %0d %d\", a);", "  5 x x x\n");
        shows("$write(\"%%|%|%5d|%D|%0|%0x|%\");", "%|%|%5d|%D|%0|%0x|%");
        shows("$write(\"100%\", \"%d\", 3'd4);", "100%4");
        shows("$write(\"a\\nb\\\"c\\\\d\\x\\%d\", 3'd4);", "a\nb\"c\\dx4");
        shows("m[0] = 9; $write(\"%d%d\", m[0], m[2]);", " 9 x");
        shows("$write(\"%0d\", 1 ? 3'd7 : 8'd1);", "7");
        shows("$write(\"%d\", $time);", "                   0");
    }

    private static void bounds() {
        Case c = Case.of("full", "module t; initial begin repeat (819) $write(\""
                + "1234567890123456789012345678901234567890\"); $display(\"abcdefghijk\"); end endmodule");
        c.run(20000, 2).count(4, 32768);
        c.due("log(32760)", c.theatre.log(32760), 'a');
        c.due("log(32767)", c.theatre.log(32767), 'h');
        c.refused("log(32768)", IndexOutOfBoundsException.class, () -> c.theatre.log(32768));
        c.refused("log(-1)", IndexOutOfBoundsException.class, () -> c.theatre.log(-1));
        c.build("module t; initial $write(\"a\"); endmodule");
        c.refused("log(0)", IndexOutOfBoundsException.class, () -> c.theatre.log(0));
        c.run(9, 2).logs("a");
        c.refused("log(1)", IndexOutOfBoundsException.class, () -> c.theatre.log(1));
    }
}
