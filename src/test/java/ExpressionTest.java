/** Terms, BITS and VALUES: what EXPRS are worth; %b shows them by themselves. */
public final class ExpressionTest {
    private static final String NAMES = "reg [7:0] a, b; reg signed [7:0] s, r; reg [3:0] x, z; "
            + "reg [5:2] q; reg [3:0] m[2:5]; integer i; ";
    private static final String VALUES = "a = 200; b = 100; s = -3; r = 2; x = 4'b01xz; z = 4'bzz10; "
            + "q = 4'b1001; m[2] = 7; m[5] = 8; i = -1; ";

    public static void main(String[] args) {
        numbers();
        widths();
        arithmetic();
        bitwise();
        comparisons();
        shifts();
        choices();
        parts();
        Case.close();
    }

    /** By itself. */
    private static void is(String expression, String want) {
        Case.of(expression, "module t; localparam P = -2; " + NAMES + "initial begin " + VALUES
                + "$write(\"%b\", " + expression + "); end endmodule").run(100, 2).logs(want);
    }

    /** Assigned to so many bits. */
    private static void set(int width, String expression, String want) {
        Case.of(expression, "module t; localparam P = -2; reg [" + (width - 1) + ":0] o; " + NAMES + "initial begin "
                + VALUES + "o = " + expression + "; end endmodule").run(100, 2).is(0, want);
    }

    private static void numbers() {
        is("8'b1", "00000001");
        is("8'bx1", "xxxxxxx1");
        is("8'bz01", "zzzzzz01");
        is("8'b0x", "0000000x");
        is("8'h?1", "zzzz0001");
        is("8'Hf_F", "11111111");
        is("6'o7_X", "111xxx");
        is("9'oz0", "zzzzzz000");
        is("4'hfa", "1010");
        is("4'bx0000", "0000");
        is("4'd18", "0010");
        is("4'Dx", "xxxx");
        is("4'd?", "zzzz");
        is("3'Sd7", "111");
        is("'b1", "0".repeat(31) + "1");
        is("'hx", "x".repeat(32));
        is("5", "0".repeat(29) + "101");
        is("1_0", "0".repeat(28) + "1010");
        is("64'd18446744073709551615", "1".repeat(64));
        set(8, "4'sb1000", "11111000");
        set(8, "4'b1000", "00001000");
        set(8, "4'bx", "0000xxxx");
        set(8, "4'sbz", "zzzzzzzz");
    }

    private static void widths() {
        set(16, "a + b", "0000000100101100");
        is("a + b", "00101100");
        is("{a + b}", "00101100");
        set(16, "{a + b}", "0000000000101100");
        set(16, "s", "1111111111111101");
        set(16, "s + a", "0000000111000101");
        set(16, "s + $signed(a)", "1111111111000101");
        set(16, "$unsigned(s)", "0000000011111101");
        set(16, "s[7:0]", "0000000011111101");
        set(16, "~a", "1111111100110111");
        set(16, "-4'd1", "1111111111111111");
        set(16, "~4'd1 + 1'sb0", "1111111111111110");
        set(4, "s * r", "1010");
        set(16, "a == 8'd200 ? s : r", "1111111111111101");
        set(16, "1 ? s : a", "0000000011111101");
        set(16, "P", "1111111111111110");
        is("P", "1".repeat(31) + "0");
        set(40, "P + 0", "1".repeat(39) + "0");
        set(40, "P + 32'd0", "0".repeat(8) + "1".repeat(31) + "0");
        is("$time", "0".repeat(64));
        is("i", "1".repeat(32));
        is("&a + 1'b1", "1");
    }

    private static void arithmetic() {
        is("a - b", "01100100");
        is("b - a", "10011100");
        is("a * b", "00100000");
        is("a / 8'd7", "00011100");
        is("a % 8'd7", "00000100");
        is("s / r", "11111111");
        is("s % r", "11111111");
        is("r % s", "00000010");
        is("s / $unsigned(r)", "01111110");
        is("4'sb1000 / 4'sb1111", "1000");
        is("4'sb1000 % 4'sb1111", "0000");
        is("64'sh8000000000000000 / -64'sd1", "1" + "0".repeat(63));
        is("64'hffffffffffffffff / 64'hfffffffffffffffe", "0".repeat(63) + "1");
        is("64'hffffffffffffffff % 64'd10", "0".repeat(61) + "101");
        is("a / 8'd0", "xxxxxxxx");
        is("a % 8'd0", "xxxxxxxx");
        is("a + x", "xxxxxxxx");
        is("8'd0 * z", "xxxxxxxx");
        is("-x", "xxxx");
        is("+x", "01xz");
        is("-b", "10011100");
        is("1 + 2 * 3 - 4 / 2", "0".repeat(29) + "101");
        is("10 - 3 - 2", "0".repeat(29) + "101");
        is("-8'sd7 / 8'sd2", "11111101");
    }

    private static void bitwise() {
        is("4'b0011 & 4'bxzxz", "00xx");
        is("4'b0011 | 4'bxzxz", "xx11");
        is("4'b0011 ^ 4'bx10z", "x11x");
        is("4'b0011 ~^ 4'bx10z", "x00x");
        is("4'bzzzz & 4'bzzzz", "xxxx");
        is("~x", "10xx");
        is("&4'b1111", "1");
        is("&4'b1x11", "x");
        is("&4'b0x11", "0");
        is("~&4'b0x11", "1");
        is("|4'b0000", "0");
        is("|4'b000z", "x");
        is("|4'b01xx", "1");
        is("~|4'b0000", "1");
        is("^4'b0111", "1");
        is("^4'b011x", "x");
        is("~^4'b0111", "0");
        is("!x", "0");
        is("!4'b00x0", "x");
        is("!4'b0", "1");
        is("x && 0", "0");
        is("4'b0x00 && 1", "x");
        is("4'b0x00 && 0", "0");
        is("4'b0x00 || 1", "1");
        is("4'b0x00 || 0", "x");
        is("x || z", "1");
        is("1 || 0 && 0", "1");
        is("1'b1 | 1'b1 ^ 1'b1 & 1'b0", "1");
    }

    private static void comparisons() {
        is("a == 200", "1");
        is("x == 4'b11xx", "0");
        is("x == 4'b01xz", "x");
        is("x != 4'b11xx", "1");
        is("x != 4'b01xz", "x");
        is("x === 4'b01xz", "1");
        is("x === 4'b01xx", "0");
        is("x !== 4'b01xx", "1");
        is("a > b", "1");
        is("s < r", "1");
        is("s < b", "0");
        is("a >= 8'd200", "1");
        is("a <= 8'd199", "0");
        is("x < 4'd9", "x");
        is("s == 8'd253", "1");
        is("s == 253", "0");
        is("s === 16'shfffd", "1");
        is("4'sb1111 == 8'b00001111", "1");
        is("1 < 2 == 1", "1");
        is("8'hff > 8'sd0 == 0", "0");
        is("-1 < 0", "1");
        is("i < 32'd0", "0");
        is("64'h8000000000000000 > 64'd1", "1");
        is("64'sh8000000000000000 > 64'sd1", "0");
        is("(a + b) > 8'd255", "0");
        is("(a + b) > 255", "1");
    }

    private static void shifts() {
        is("a << 1", "10010000");
        is("a <<< 1", "10010000");
        is("a >> 1", "01100100");
        is("a >>> 1", "01100100");
        is("s >>> 1", "11111110");
        is("s >> 1", "01111110");
        is("s >>> 100", "11111111");
        is("a >> 100", "00000000");
        is("a << 64'hffffffffffffffff", "00000000");
        is("a << i", "00000000");
        is("x << 1", "1xz0");
        is("x >> 1", "001x");
        is("4'sbx000 >>> 1", "xx00");
        is("a << 1'bz", "xxxxxxxx");
        set(16, "a << 1", "0000000110010000");
        set(16, "(s >>> 1) + a", "0000000101000110");
        set(16, "s >>> 1", "1111111111111110");
        is("8'd1 << 1 + 1", "00000100");
    }

    private static void choices() {
        is("1 ? x : z", "01xz");
        is("0 ? x : z", "zz10");
        is("1'bx ? 4'b0011 : 4'b0101", "0xx1");
        is("1'bz ? 4'bzx01 : 4'bzx01", "xx01");
        is("1'b0 ? 4'd1 : 1'b1 ? 4'd2 : 4'd3", "0010");
        is("2'b0x ? 1'b1 : 1'b1", "1");
        is("{x, z}", "01xzzz10");
        is("{2{x}}", "01xz01xz");
        is("{1'b1, {2{2'b10}}, 1'b0}", "110100");
        is("{3{1'b1, 2'b0}}", "100100100");
        is("$signed(4'b1000) >>> 1", "1100");
        is("$unsigned(4'sb1000) >>> 1", "0100");
        is("$signed(a + b) < 0", "0");
    }

    private static void parts() {
        is("a[7]", "1");
        is("a[8]", "x");
        is("a[i]", "x");
        is("a[1'bx]", "x");
        is("q[2]", "1");
        is("q[3]", "0");
        is("q[5]", "1");
        is("q[1]", "x");
        is("q[4:3]", "00");
        is("a[6:3]", "1001");
        is("m[2]", "0111");
        is("m[3]", "xxxx");
        is("m[5]", "1000");
        is("m[6]", "xxxx");
        is("m[i]", "xxxx");
        is("m[x]", "xxxx");
        is("P[0]", "0");
        is("P[31]", "1");
        is("P[32]", "x");
        is("P[2:0]", "110");
        Case.of("ranges below 0", "module t; reg [1:-2] a; reg [3:0] m[-1:1]; integer i; initial begin "
                + "a = 4'b0110; m[-1] = 5; i = -2; a[i] = 1; $write(\"%b%b%b%b\", a[-2], a[-1:-2], m[-1], a[1]); "
                + "end endmodule").run(50, 2).logs("1" + "11" + "0101" + "0").is(0, "0111");
    }
}
