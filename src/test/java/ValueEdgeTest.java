import java.math.BigInteger;

/**
 * Edges of BITS and VALUES: operators at WIDTHS up to 64, with the least and greatest numbers, x and z.
 *
 * <p>What is due is worked out here from bits as letters, so in another way than the class does it.
 */
public final class ValueEdgeTest {
    private static final int[] WIDTHS = {1, 2, 31, 32, 33, 63, 64};
    private static final String[] BINARY = {"+", "-", "*", "/", "%", "&", "|", "^", "~^", "<<", ">>", "<<<", ">>>",
        "==", "!=", "===", "!==", "<", "<=", ">", ">=", "&&", "||"};
    private static final String[] UNARY = {"+", "-", "~", "!", "&", "~&", "|", "~|", "^", "~^"};

    public static void main(String[] args) {
        for (int width : WIDTHS) {
            for (int signs = 0; signs < 4; signs++) {
                check(width, (signs & 1) != 0, (signs & 2) != 0);
            }
        }
        indices();
        braces();
        shifts();
        narrowIndices();
        operands();
        levels();
        choices();
        Case.close();
    }

    private static String[] values(int width) {
        String rest = "0".repeat(width - 1);
        String ones = "1".repeat(width - 1);
        return new String[] {rest + "0", rest + "1", "1" + ones, "1" + rest, "0" + ones, "x" + rest, ones + "z",
            (width > 5 ? "0".repeat(width - 5) + "0111" : rest) + "1", "x".repeat(width), "z".repeat(width)};
    }

    private static void check(int width, boolean signedA, boolean signedB) {
        StringBuilder text = new StringBuilder("module t; reg " + (signedA ? "signed " : "") + "[" + (width - 1)
                + ":0] a; reg " + (signedB ? "signed " : "") + "[" + (width - 1) + ":0] b; ");
        int nets = 0;
        for (String op : BINARY) {
            text.append(net(nets, "a " + op + " b"));
            nets += 2;
        }
        for (String op : UNARY) {
            text.append(net(nets, op + "a"));
            nets += 2;
        }
        text.append(net(nets, "b ? a : b")).append(net(nets + 2, "1'bx ? a : b")).append("endmodule");
        for (String a : values(width)) {
            Case c = null;
            int calls = 512;
            for (String b : values(width)) {
                if (calls + 3 * nets > 512) {
                    c = Case.of(width + " bits", text.toString());
                    calls = 10;
                }
                calls += 3 * nets;
                set(c, 0, a);
                set(c, 1, b);
                c.run(1000, 2);
                compare(c, a, b, signedA, signedB);
            }
        }
    }

    /** An EXPR that is assigned to 64 bits, and as it is by itself. */
    private static String net(int number, String expression) {
        return "wire [63:0] w" + number + ", w" + (number + 1) + "; assign w" + number + " = " + expression
                + "; assign w" + (number + 1) + " = {" + expression + "}; ";
    }

    private static void set(Case c, int v, String bits) {
        long ones = 0;
        long unknown = 0;
        for (char bit : bits.toCharArray()) {
            ones = ones << 1 | (bit == '1' || bit == 'x' ? 1 : 0);
            unknown = unknown << 1 | (bit == 'x' || bit == 'z' ? 1 : 0);
        }
        c.theatre.set(v, 0, ones, unknown);
    }

    private static void compare(Case c, String a, String b, boolean signedA, boolean signedB) {
        int v = 2;
        int width = a.length();
        boolean both = signedA && signedB;
        for (String op : BINARY) {
            boolean shift = op.startsWith("<<") || op.startsWith(">>");
            boolean signed = shift ? signedA : both;
            compare(c, v, a + " " + op + " " + b, binary(op, a, b, 64, signed, both), 64);
            compare(c, v + 1, "{" + a + " " + op + " " + b + "}", binary(op, a, b, width, signed, both), width);
            v += 2;
        }
        for (String op : UNARY) {
            compare(c, v, op + a, unary(op, a, 64, signedA), 64);
            compare(c, v + 1, "{" + op + a + "}", unary(op, a, width, signedA), width);
            v += 2;
        }
        for (int k = 0; k < 2; k++) {
            char truth = k == 0 ? truth(b) : 'x';
            compare(c, v, truth + " ? " + a + " : " + b, choice(truth, extend(a, 64, both), extend(b, 64, both)), 64);
            compare(c, v + 1, "{" + truth + " ? " + a + " : " + b + "}", choice(truth, a, b), width);
            v += 2;
        }
    }

    private static void compare(Case c, int v, String expression, String want, int width) {
        String due = want.length() == 1 && width > 1 ? "0".repeat(width - 1) + want : want;
        c.dueText(expression, c.bits(v, 0), "0".repeat(64 - width) + due);
    }

    private static String extend(String bits, int width, boolean signed) {
        return String.valueOf(signed ? bits.charAt(0) : '0').repeat(width - bits.length()) + bits;
    }

    private static boolean isKnown(String bits) {
        return bits.indexOf('x') < 0 && bits.indexOf('z') < 0;
    }

    private static BigInteger number(String bits, boolean signed) {
        BigInteger number = new BigInteger(bits, 2);
        return signed && bits.charAt(0) == '1' ? number.subtract(BigInteger.ONE.shiftLeft(bits.length())) : number;
    }

    private static String bits(BigInteger number, int width) {
        String bits = number.mod(BigInteger.ONE.shiftLeft(width)).toString(2);
        return "0".repeat(width - bits.length()) + bits;
    }

    private static char truth(String bits) {
        return bits.indexOf('1') >= 0 ? '1' : isKnown(bits) ? '0' : 'x';
    }

    private static char not(char bit) {
        return bit == '0' ? '1' : bit == '1' ? '0' : 'x';
    }

    private static char and(char one, char other) {
        return one == '0' || other == '0' ? '0' : one == '1' && other == '1' ? '1' : 'x';
    }

    private static char or(char one, char other) {
        return not(and(not(one), not(other)));
    }

    private static char xor(char one, char other) {
        return or(and(one, not(other)), and(not(one), other));
    }

    private static String binary(String op, String a, String b, int width, boolean signed, boolean both) {
        String left = extend(a, width, signed);
        String right = extend(b, width, signed);
        boolean known = isKnown(a) && isKnown(b);
        switch (op) {
            case "+": case "-": case "*": case "/": case "%":
                return known ? reckon(op, number(left, signed), number(right, signed), width) : "x".repeat(width);
            case "&": case "|": case "^": case "~^":
                return mix(op, left, right);
            case "<<": case "<<<": case ">>": case ">>>":
                return isKnown(b) ? shift(op, left, number(b, false), signed) : "x".repeat(width);
            case "===": case "!==":
                return a.equals(b) == op.equals("===") ? "1" : "0";
            case "==": case "!=":
                return equal(op, a, b);
            case "&&":
                return "" + and(truth(a), truth(b));
            case "||":
                return "" + or(truth(a), truth(b));
            default:
                return known ? order(op, number(a, both).compareTo(number(b, both))) : "x";
        }
    }

    private static String reckon(String op, BigInteger a, BigInteger b, int width) {
        switch (op) {
            case "+":
                return bits(a.add(b), width);
            case "-":
                return bits(a.subtract(b), width);
            case "*":
                return bits(a.multiply(b), width);
            case "/":
                return b.signum() == 0 ? "x".repeat(width) : bits(a.divide(b), width);
            default:
                return b.signum() == 0 ? "x".repeat(width) : bits(a.remainder(b), width);
        }
    }

    private static String mix(String op, String a, String b) {
        StringBuilder mixed = new StringBuilder();
        for (int k = 0; k < a.length(); k++) {
            char one = a.charAt(k);
            char other = b.charAt(k);
            mixed.append(op.equals("&") ? and(one, other) : op.equals("|") ? or(one, other)
                    : op.equals("^") ? xor(one, other) : not(xor(one, other)));
        }
        return mixed.toString();
    }

    private static String shift(String op, String a, BigInteger by, boolean signed) {
        int width = a.length();
        int places = by.min(BigInteger.valueOf(width)).intValue();
        if (op.startsWith("<")) {
            return a.substring(places) + "0".repeat(places);
        }
        String fill = op.equals(">>>") && signed ? a.substring(0, 1) : "0";
        return fill.repeat(places) + a.substring(0, width - places);
    }

    private static String equal(String op, String a, String b) {
        boolean odd = false;
        for (int k = 0; k < a.length(); k++) {
            char differing = xor(a.charAt(k), b.charAt(k));
            if (differing == '1') {
                return op.equals("==") ? "0" : "1";
            }
            odd = odd || differing == 'x';
        }
        return odd ? "x" : op.equals("==") ? "1" : "0";
    }

    private static String order(String op, int order) {
        boolean so = op.equals("<") ? order < 0 : op.equals("<=") ? order <= 0 : op.equals(">") ? order > 0 : order >= 0;
        return so ? "1" : "0";
    }

    private static String unary(String op, String a, int width, boolean signed) {
        String wide = extend(a, width, signed);
        char all = '1';
        char some = '0';
        char odd = '0';
        for (char bit : a.toCharArray()) {
            all = and(all, bit);
            some = or(some, bit);
            odd = xor(odd, bit);
        }
        switch (op) {
            case "+":
                return wide;
            case "-":
                return isKnown(a) ? bits(number(wide, signed).negate(), width) : "x".repeat(width);
            case "~":
                return mix("^", wide, "1".repeat(width));
            case "!":
                return "" + not(truth(a));
            case "&": case "~&":
                return "" + (op.equals("&") ? all : not(all));
            case "|": case "~|":
                return "" + (op.equals("|") ? some : not(some));
            default:
                return "" + (op.equals("^") ? odd : not(odd));
        }
    }

    private static String choice(char truth, String a, String b) {
        if (truth != 'x') {
            return truth == '1' ? a : b;
        }
        StringBuilder mixed = new StringBuilder();
        for (int k = 0; k < a.length(); k++) {
            char one = a.charAt(k);
            mixed.append(one == b.charAt(k) && (one == '0' || one == '1') ? one : 'x');
        }
        return mixed.toString();
    }

    /** "NAME[E]: bit E less l of the RANGE, x if not there .. of a MEMORY: that word, all x if not there." */
    private static void indices() {
        Case c = Case.of("indices", "module t; reg [63:0] e; reg signed [63:0] s; reg [5:2] a; reg [63:0] b; "
                + "reg signed [1:-2] d; reg [3:0] m[-1:2], n[4095:0]; wire [3:0] w0, w1, w2, w3, w4, w5, w6; "
                + "assign w0 = {a[e]}; assign w1 = {b[e]}; assign w2 = {d[s]}; assign w3 = m[s]; assign w4 = n[e]; "
                + "assign w5 = {d[e]}; assign w6 = m[e]; "
                + "initial begin a = 4'b1101; b = 1; b[63] = 1; d = 4'b0110; m[-1] = 5; m[0] = 6; m[2] = 9; "
                + "n[0] = 1; n[4095] = 2; end endmodule");
        c.run(99, 2);
        long[] indices = {-3, -2, -1, 0, 1, 2, 3, 5, 6, 63, 64, 4095, 4096, 1L << 32, 2 + (1L << 32), Long.MIN_VALUE,
            Long.MAX_VALUE};
        String[] first = {"x", "x", "x", "x", "x", "1", "0", "1", "x", "x", "x", "x", "x", "x", "x", "x", "x"};
        String[] second = {"x", "x", "x", "1", "0", "0", "0", "0", "0", "1", "x", "x", "x", "x", "x", "x", "x"};
        String[] third = {"x", "0", "1", "1", "0", "x", "x", "x", "x", "x", "x", "x", "x", "x", "x", "x", "x"};
        String[] word = {"xxxx", "xxxx", "0101", "0110", "xxxx", "1001", "xxxx", "xxxx", "xxxx", "xxxx", "xxxx", "xxxx",
            "xxxx", "xxxx", "xxxx", "xxxx", "xxxx"};
        for (int k = 0; k < indices.length; k++) {
            c.theatre.set(0, 0, indices[k], 0);
            c.theatre.set(1, 0, indices[k], 0);
            c.run(99, 2);
            c.is(7, "000" + first[k]).is(8, "000" + second[k]).is(9, "000" + third[k]).is(10, word[k]);
            c.is(11, indices[k] == 0 ? "0001" : indices[k] == 4095 ? "0010" : "xxxx");
            // Without sign a number below 0 is a great one.
            c.is(12, "000" + (indices[k] < 0 ? "x" : third[k])).is(13, indices[k] < 0 ? "xxxx" : word[k]);
        }
        c.theatre.set(0, 0, 2, 1);
        c.theatre.set(1, 0, 0, 1L << 63);
        c.run(99, 2).is(7, "000x").is(8, "000x").is(9, "000x").is(10, "xxxx").is(11, "xxxx");
    }

    /** "Shifts: .. by the right one without sign": by WIDTH - 1, WIDTH, and more. */
    private static void shifts() {
        for (int width : WIDTHS) {
            for (int by : new int[] {0, 1, width - 1, width, width + 1, 63, 64, 65, 127, 128, 255}) {
                String ones = "1".repeat(width);
                String value = width + "'h" + new BigInteger(ones, 2).toString(16);
                int places = Math.min(by, width);
                String gone = "0".repeat(places);
                String kept = "1".repeat(width - places);
                String[][] pairs = {{"<<", kept + gone}, {"<<<", kept + gone}, {">>", gone + kept}, {">>>", gone + kept}};
                for (String[] pair : pairs) {
                    Case.of(value + pair[0] + by, "module t; initial $write(\"%b\", " + value + pair[0] + "8'd" + by
                            + "); endmodule").run(9, 2)
                            .logs(pair[1]);
                }
                String signed = value.replace("'h", "'sh");
                Case.of(signed + by, "module t; initial $write(\"%b%b\", " + signed + ">>>8'd" + by + ", " + signed + ">>8'd"
                        + by + "); endmodule")
                        .run(9, 2).logs(ones + gone + kept);
                Case.of("x by " + by, "module t; initial $write(\"%b\", " + width + "'bx<<8'd" + by + "); endmodule").run(9, 2)
                        .logs("x".repeat(width - places) + gone);
            }
        }
    }

    /** An index is a number of its own WIDTH and sign. */
    private static void narrowIndices() {
        for (int width : new int[] {3, 4, 5, 31, 32, 33, 63, 64}) {
            Case c = Case.of(width + " bits", "module t; reg signed [" + (width - 1) + ":0] s; reg [" + (width - 1)
                    + ":0] u; reg [3:-4] a; reg [3:0] m[-4:3]; "
                    + "wire v, w; wire [3:0] p, q; assign v = a[s]; assign w = a[u]; assign p = m[s]; assign q = m[u]; "
                    + "initial begin a = 8'b10110010; m[-4] = 1; m[-1] = 2; m[3] = 3; end endmodule");
            c.run(99, 2);
            for (int index = -4; index < 4; index++) {
                c.theatre.set(0, 0, index, 0);
                c.theatre.set(1, 0, index, 0);
                c.run(99, 2);
                String bit = "" + "10110010".charAt(3 - index);
                String word = index == -4 ? "0001" : index == -1 ? "0010" : index == 3 ? "0011" : "xxxx";
                c.is(4, bit).is(5, index < 0 ? "x" : bit).is(6, word).is(7, index < 0 ? "xxxx" : word);
            }
        }
    }

    /** "All other operands are worked out for themselves, with their own L and sign; those of comparisons .." */
    private static void operands() {
        String[][] pairs = {{"8'hf0 > $unsigned(4'd2)", "1"}, {"8'hf0 > {2'd1, 2'd1}", "1"}, {"8'hf0 > (4'd15 + 4'd2)", "1"},
                {"8'd16 == 4'd15 + 4'd1", "1"},
            {"4'd0 == {4'd15 + 4'd1}", "1"}, {"-8'sd1 < $signed(4'hf) + 4'sd1", "1"}, {"-8'sd1 < $unsigned(4'd1)", "0"},
                    {"8'sd1 > -4'sd1", "1"},
            {"8'sd1 > $signed(4'hf)", "1"}, {"8'd1 > 4'sb1111", "0"}, {"!(4'd15 + 4'd1)", "1"}, {"4'd15 + 4'd1 && 1", "0"},
                    {"|(4'd15 + 4'd1)", "0"},
            {"(4'd15 + 4'd1 ? 2'd1 : 2'd2)", "10"}, {"8'd1 << 4'd15 + 4'd1", "00000001"}, {"8'd1 << (4'd15 + 5'd1)", "00000000"},
            {"4'd8 + 4'd8 >> 1", "0000"}, {"{4'd8 + 4'd8, 1'b1}", "00001"}, {"$signed(4'd8 + 4'd8) + 8'sd0", "00000000"},
                    {"{2{4'd15 + 4'd1}}", "00000000"},
            {"4'sb1000 + 8'd0", "00001000"}, {"4'sb1000 + 8'sd0", "11111000"}, {"(4'sb1000 + 4'sd0) + 8'd0", "00001000"},
                    {"(1 ? 4'sb1000 : 4'sd0) + 8'sd0 == -8", "1"},
            {"(4'sb1000 >>> 1) + 8'sd0", "11111100"}, {"(4'sb1000 >>> 1) + 8'd0", "00000100"}, {"~4'd0 + 8'd0", "11111111"},
                    {"-4'd1 + 8'd0", "11111111"},
            {"!4'd0 + 8'd0", "00000001"}, {"(4'sb1000 < 4'sd0) + 2'd0", "01"}, {"4'sb1000 == 8'sb11111000", "1"},
                    {"4'sb1000 == 8'b11111000", "0"},
            {"4'sb1000 === 8'sb11111000", "1"}, {"4'bx === 8'bx", "0"}, {"4'sbx === 8'sbx", "1"}, {"4'bx == 8'b00010000", "0"},
                    {"4'bx == 8'b00000000", "x"}};
        for (String[] pair : pairs) {
            Case.of(pair[0], "module t; initial $write(\"%b\", " + pair[0] + "); endmodule").run(9, 2).logs(pair[1]);
        }
        Case.of("$time", "module t; initial #3 $write(\"%b\", 1'bx ? $time : $time); endmodule").run(9, 2).logs("0".repeat(62)
                + "11");
        Case.of("assigned", "module t; reg [7:0] a; reg [3:0] b; initial begin a = 4'd15 + 4'd1; b = 8'hff; end endmodule").run(9, 2)
                .is(0, "00010000").is(1, "1111");
    }

    /** "levels, the loosest first, each from the left": for each two operators. */
    private static void levels() {
        String[] levels = {"||", "&&", "|", "^ ~^", "&", "== != === !==", "< <= > >=", "<< >> <<< >>>", "+ -", "* / %"};
        for (int one = 0; one < levels.length; one++) {
            for (int other = 0; other < levels.length; other++) {
                for (String first : levels[one].split(" ")) {
                    for (String second : levels[other].split(" ")) {
                        level(first, second, one >= other);
                    }
                }
            }
        }
    }

    /** For all values of a, b and c it must be the same as with the brackets that are due. */
    private static void level(String first, String second, boolean fromLeft) {
        String plain = "{a " + first + " b " + second + " c}";
        String left = "{(a " + first + " b) " + second + " c}";
        String right = "{a " + first + " (b " + second + " c)}";
        Case c = Case.of(plain,
                "module t; reg [2:0] a, b, c; reg l, r, d; initial begin l = 0; r = 0; d = 0; for (a = 0; a < 4; a = a + 1) "
                + "for (b = 0; b < 4; b = b + 1) for (c = 0; c < 4; c = c + 1) begin if (" + plain + " !== " + left
                        + ") l = 1; if (" + plain
                + " !== " + right + ") r = 1; if (" + left + " !== " + right + ") d = 1; end end endmodule");
        c.run(20000, 2).is(fromLeft ? 3 : 4, "0").is(fromLeft ? 4 : 3, c.bits(5, 0));
    }

    /** ?: is the loosest and from the right, UNARY the tightest. */
    private static void choices() {
        String[][] pairs = {{"0 || 1 ? 3'd1 : 3'd2", "001"}, {"0 ? 3'd1 : 0 ? 3'd2 : 3'd3", "011"},
                {"1 ? 3'd1 : 1 ? 3'd2 : 3'd3", "001"},
            {"1 ? 0 ? 3'd4 : 3'd5 : 3'd6", "101"}, {"0 ? 3'd1 : 3'd2 | 3'd4", "110"}, {"1 ? 3'd1 : 3'd2 | 3'd4", "001"},
                    {"1 ? 3'd1 | 3'd2 : 3'd4", "011"},
            {"!3'd2 == 1'b0", "1"}, {"-3'd1 * 3'd2", "110"}, {"~3'd1 & 3'd3", "010"}, {"&2'b11 + 1'b1", "0"},
                    {"-1'b1 ? 2'd1 : 2'd2", "01"},
            {"~^2'b11 ^ 1'b1", "0"}, {"!!3'd4", "1"}, {"- -3'd3", "011"}, {"~&2'b10 & 1'b0", "0"}, {"^2'b10 + 1'b1", "0"},
                    {"|2'b10 - 1'b1", "0"}};
        for (String[] pair : pairs) {
            Case.of(pair[0], "module t; initial $write(\"%b\", " + pair[0] + "); endmodule").run(9, 2).logs(pair[1]);
        }
    }

    /** "{ }: the sum, of a number n of copies n times that, at most 64." */
    private static void braces() {
        String start = "module t; reg [63:0] a; reg [62:0] b; reg c; initial a = ";
        Case.edge("the sum", 4, start + "{b, c}; endmodule", start + "\u00a7{a, c}; endmodule");
        Case.edge("copies", 4, start + "{64{c}}; endmodule", start + "\u00a7{65{c}}; endmodule");
        Case.edge("copies of two", 4, start + "{32{c, c}}; endmodule", start + "\u00a7{32{c, c, c}}; endmodule");
        Case.edge("copies of 64", 4, start + "{1{a}}; endmodule", start + "\u00a7{2{a}}; endmodule");
        Case.edge("copies of many", 4, start + "{1{c}}; endmodule", start + "\u00a7{2147483647{c}}; endmodule");
        Case.edge("in one another", 4, start + "{{32{c}}, {31{c}}, c}; endmodule",
                start + "\u00a7{{32{c}}, {31{c}}, c, c}; endmodule");
        Case.edge("in an operand", 4, start + "1 + {b, c}; endmodule", start + "1 + \u00a7{b, c, c}; endmodule");
        Case.edge("numbers", 4, start + "{1, 2}; endmodule", start + "\u00a7{1, 2, 1'b1}; endmodule");
        Case.edge("the inner one", 4, start + "|{b, c}; endmodule", start + "|\u00a7{a, c} + {1'b1, |{b, c}}; endmodule");
        Case.edge("of LEFTS", 4, "module t; reg [62:0] b; reg c, d; initial {b, c} = 1; endmodule",
                "module t; reg [62:0] b; reg c, d; initial \u00a7{b, c, d} = 1; endmodule");
        Case.edge("of LEFTS in one another", 4, "module t; integer a; reg [15:0] b, c; initial {a, {b, c}} = 1; endmodule",
                "module t; integer a; reg [15:0] b, c; initial \u00a7{a, {b, c}, b[0]} = 1; endmodule");
        Case.edge("of the inner LEFTS", 4, "module t; integer a, b; reg c; initial {{a, b}} = 1; endmodule",
                "module t; integer a, b; reg c; initial \u00a7{{a, b}, c} = 1; endmodule");
        Case.of("LEFTS in one another",
                "module t; integer a; reg [15:0] b, c; initial {a, {b, c}} = 64'h0000000100020003; endmodule").run(9, 2)
                .is(0, "0".repeat(31) + "1").is(1, "0".repeat(14) + "10").is(2, "0".repeat(14) + "11");
        Case.edge("of NETS", 4, "module t; wire [62:0] b; wire c, d; assign {b, c} = 1; endmodule",
                "module t; wire [62:0] b; wire c, d; assign \u00a7{b, {c, d}} = 1; endmodule");
        Case.of("64 copies", "module t; reg [63:0] a; initial a = {32{2'b1x}}; endmodule").run(9, 2).is(0, "1x".repeat(32));
        for (int copies = 1; copies <= 64; copies++) {
            Case.of(copies + " copies", "module t; initial $write(\"%b\", {" + copies + "{1'b1}}); endmodule").run(9, 2).logs("1".repeat(copies));
        }
        Case.of("64 bits", "module t; reg [62:0] b; reg c; reg [63:0] d; initial begin {c, b} = 64'h8000000000000001; "
                + "d = {b, c}; end endmodule").run(9, 2).is(0, "0".repeat(62) + "1").is(1, "1").is(2, "0".repeat(62) + "11");
    }
}
