/** Edges of CONSTANTS: RANGES, parameters, copies, indices; FAULT 4, and what makes a CONSTANT none (3). */
public final class ConstantEdgeTest {
    public static void main(String[] args) {
        widths();
        memories();
        parts();
        copies();
        unclear();
        numbers();
        parameters();
        partsOfParameters();
        workedOut();
        noConstants();
        bracesWithFaults();
        Case.close();
    }

    private static void item(String sentence, int number, String right, String wrongMarked) {
        String start = "module t; localparam P = 3; reg [5:2] a; wire [5:2] w; reg v; ";
        Case.edge(sentence, number, start + right + " endmodule", start + wrongMarked + " endmodule");
    }

    /** "WIDTHS not 1 .. 64", "h not below l". */
    private static void widths() {
        item("64", 4, "reg [63:0] b;", "reg [\u00a764:0] b;");
        item("64 of a wire", 4, "wire [66:3] b;", "wire [\u00a767:3] b;");
        item("1", 4, "reg [7:7] b;", "reg [\u00a77:8] b;");
        item("below 0", 4, "reg [-1:-64] b;", "reg [\u00a7-1:-65] b;");
        item("far apart", 4, "reg [2147483647:2147483584] b;", "reg [\u00a72147483647:-2147483647 - 1] b;");
        item("far below", 4, "reg [-2147483647:-2147483647 - 1] b;", "reg [\u00a7-2147483647 - 1:2147483647] b;");
        item("not copied", 4, "reg [63:0] b, c;", "reg [\u00a764:0] b, c;");
        Case.edge("of a port", 4, "module t(input [63:0] a); endmodule", "module t(input [\u00a764:0] a); endmodule");
        Case.edge("of an output", 4, "module t(output reg signed [0:0] a); endmodule",
                "module t(output reg signed [\u00a70:1] a); endmodule");
        Case c = Case.of("far ends", "module t; reg [2147483647:2147483584] b; reg [-2147483585:-2147483647 - 1] d; "
                + "initial begin b = 0; d = 0; b[2147483647] = 1; b[2147483583] = 1; d[-2147483647 - 1] = 1; "
                + "b[2147483600:2147483599] = 3; end endmodule");
        c.run(99, 2).due("b", c.theatre.value(0, 0, 0), 1L << 63 | 3L << 15);
        c.due("d", c.theatre.value(1, 0, 0), 1);
        c.due("WIDTH", c.theatre.told(0, 0), 64);
    }

    /** "MEMORIES not 1 .. 4096 words, the ends of their RANGES in any order." */
    private static void memories() {
        item("4096", 4, "reg m[0:4095];", "reg m[\u00a70:4096];");
        item("4096 downwards", 4, "reg m[4095:0];", "reg m[\u00a74096:0];");
        item("1", 4, "reg m[9:9];", "reg m[\u00a72147483647:-2147483647 - 1];");
        item("below 0", 4, "reg m[-4000:95];", "reg m[\u00a7-4000:96];");
        Case c = Case.of("words", "module t; reg [3:0] m[9:9], n[-1:-3], k[4095:0]; initial begin m[9] = 1; n[-3] = 2; "
                + "n[-1] = 3; k[4095] = 4; k[0] = 5; m[8] = 7; n[0] = 7; n[-4] = 7; k[4096] = 7; k[-1] = 7; end endmodule");
        c.run(99, 2).is(0, 0, "0001").is(1, 0, "0010").is(1, 1, "xxxx").is(1, 2, "0011").is(2, 4095, "0100").is(2, 0, "0101");
        c.due("words", c.theatre.told(0, 2), 1);
        c.due("words", c.theatre.told(1, 2), 3);
        c.due("words", c.theatre.told(2, 2), 4096);
        c.is(2, 1, "xxxx").is(2, 4094, "xxxx");
    }

    /** "parts that aren't there .. of a RANGE or part as a whole: at its first EXPR." */
    private static void parts() {
        item("above", 4, "initial v = a[5:5];", "initial v = a[\u00a76:5];");
        item("below", 4, "initial v = a[2:2];", "initial v = a[\u00a72:1];");
        item("all of it", 4, "initial v = a[5:2];", "initial v = a[\u00a76:2];");
        item("the wrong way", 4, "initial v = a[3:3];", "initial v = a[\u00a73:4];");
        item("a LEFT above", 4, "initial a[5:5] = 1;", "initial a[\u00a76:6] = 1;");
        item("a LEFT below", 4, "initial a[2:2] = 1;", "initial a[\u00a72:1] = 1;");
        item("a NET above", 4, "assign w[5:2] = 1;", "assign w[\u00a76:3] = 1;");
        item("a NET below", 4, "assign w[2:2] = 1;", "assign w[\u00a71:1] = 1;");
        item("of one bit", 4, "initial v = v[0:0];", "initial v = v[\u00a71:0];");
        item("of an integer", 4, "integer i; initial v = i[31:31];", "integer i; initial v = i[\u00a732:32];");
        item("a link's", 4, "wire x; u y(.a(w[5:2])); endmodule module u(output [3:0] a);",
                "wire x; u y(.a(w[\u00a76:2])); endmodule module u(output [3:0] a);");
        // Bits that are not there are no parts.
        item("no part", 4, "initial begin v = a[6]; a[1] = 1; end assign w[9] = 1; initial @(a[7]) ;",
                "initial v = a[\u00a77:7];");
    }

    /** "copies below 1." */
    private static void copies() {
        item("1", 4, "initial v = {1{v}};", "initial v = {\u00a70{v}};");
        item("-1", 4, "initial v = {P - 2{v}};", "initial v = {\u00a7P - 3{v}};");
        item("far below", 4, "initial v = {P{v}};", "initial v = {\u00a7-2147483647 - 1{v}};");
        item("of a wide one", 4, "initial v = {64{v}};", "initial v = {\u00a7-1{64'd1, v}};");
    }

    /** "x or z in it." */
    private static void unclear() {
        item("RANGE", 4, "reg [1'b1:0] b;", "reg [\u00a71'bx:0] b;");
        item("RANGE's second", 4, "reg [3:1'b0] b;", "reg [3:\u00a71'bz] b;");
        item("MEMORY", 4, "reg m[2'b01:0];", "reg m[\u00a72'b0x:0];");
        item("MEMORY's second", 4, "reg m[0:2'b01];", "reg m[0:\u00a72'b0z];");
        item("parameter", 4, "localparam Q = 64'h1;", "localparam Q = \u00a764'hx;");
        item("parameter beyond 32 bits", 4, "localparam Q = 40'h1_00000000;", "localparam Q = \u00a740'hx_00000000;");
        item("copies", 4, "initial v = {2'b01{v}};", "initial v = {\u00a72'b0z{v}};");
        item("part", 4, "initial v = a[5:2];", "initial v = a[\u00a75 / 0:2];");
        item("part's second", 4, "initial v = a[5:2];", "initial v = a[5:\u00a72 % 0];");
        item("EVENT", 4, "initial @(a[2]) ;", "initial @(a[\u00a7'bx]) ;");
        item("NET's bit", 4, "assign w[2] = 1;", "assign w[\u00a7'bz] = 1;");
        item("both", 4, "reg [3:0] b;", "reg [\u00a7'bx:'bz] b;");
        item("linked", 4, "u #(.Q(1)) x(); endmodule module u #(parameter Q = 1);",
                "u #(.Q(\u00a71'bx)) x(); endmodule module u #(parameter Q = 1);");
        item("a parameter's own", 4, "u #(.Q(1)) x(); endmodule module u #(parameter Q = 1'bx);",
                "u x(); endmodule module u #(parameter Q = \u00a71'bx);");
        item("hidden by an operator", 4, "localparam Q = 1'bx === 1'bx;", "localparam Q = \u00a71'bx == 1'bx;");
        item("hidden by 0", 4, "localparam Q = 1'bx & 0;", "localparam Q = \u00a71'bx & 1;");
        item("not chosen", 4, "localparam Q = 1 ? 2 : 'bx;", "localparam Q = \u00a71'bx ? 2 : 3;");
        item("chosen alike", 4, "localparam Q = 1'bx ? 2 : 2;", "localparam Q = \u00a70 ? 2 : 'bx;");
    }

    /** "numbers below -2147483648 or above 2147483647, but for parameters." */
    private static void numbers() {
        item("above", 4, "reg [33'd2147483647:33'd2147483647] b;", "reg [\u00a733'd2147483648:33'd2147483648] b;");
        item("below", 4, "reg [-33'sd2147483648:-33'sd2147483648] b;", "reg [\u00a7-33'sd2147483649:-33'sd2147483649] b;");
        item("second", 4, "reg [3:40'd0] b;", "reg [3:\u00a740'd2147483648] b;");
        item("MEMORY", 4, "reg m[64'd2147483647:2147483647];", "reg m[\u00a764'd2147483648:2147483647];");
        item("MEMORY's second", 4, "reg m[2147483647:64'd2147483647];", "reg m[2147483647:\u00a764'd2147483648];");
        item("copies", 4, "initial v = {64'd1{v}};", "initial v = {\u00a764'd4294967297{v}};");
        item("part", 4, "initial v = a[64'd5:2];", "initial v = a[\u00a764'd4294967301:2];");
        item("EVENT", 4, "initial @(a[33'd2147483647]) ;", "initial @(a[\u00a733'd2147483648]) ;");
        item("NET's bit", 4, "assign w[33'd2147483647] = 1;", "assign w[\u00a733'd2147483648] = 1;");
        item("but for parameters", 4, "localparam Q = 64'd4294967299; reg [Q:3] b;",
                "localparam Q = 64'd4294967299; reg [\u00a764'd4294967299:3] b;");
        // Not in a VALUE's index, which is no CONSTANT.
        item("no CONSTANT", 4, "initial v = a[33'd2147483648];", "initial v = a[\u00a733'd2147483648:2];");
    }

    /** "Parameters are cut to 32 bits, signed." */
    private static void parameters() {
        String[][] pairs = {{"64'hffffffff_00000005", "0".repeat(29) + "101"}, {"33'h1_80000000", "1" + "0".repeat(31)},
            {"2147483647 + 1", "1" + "0".repeat(31)}, {"-1", "1".repeat(32)}, {"4'hf", "0".repeat(28) + "1111"},
            {"4'shf", "1".repeat(32)}, {"-4'd1", "1".repeat(32)}, {"~1'b0", "1".repeat(32)}, {"{1'b1}", "0".repeat(31) + "1"},
            {"31'h7fffffff", "0" + "1".repeat(31)}, {"1'b1 << 31", "1" + "0".repeat(31)}, {"31'h7fffffff + 1'b1", "1"
                    + "0".repeat(31)},
            {"1'b1 << 32", "0".repeat(32)}, {"33'b1 << 32 >> 32", "0".repeat(31) + "1"}, {"16'hffff * 16'hffff >> 31",
                    "0".repeat(31) + "1"},
            {"40'hff_ffff_ffff >> 8", "1".repeat(32)}, {"64'sh8000_0000_0000_0000 >>> 63", "1".repeat(32)}};
        for (String[] pair : pairs) {
            Case.of(pair[0], "module t; localparam P = " + pair[0] + "; initial $write(\"%b\", P); endmodule").run(9, 2)
                    .logs(pair[1]);
            Case.of(pair[0], "module t; u #(.P(" + pair[0] + ")) x(); endmodule module u #(parameter P = 7); "
                    + "initial $write(\"%b\", P); endmodule").run(9, 2).logs(pair[1]);
            Case.of(pair[0], "module t #(parameter P = " + pair[0] + "); reg [63:0] a; initial a = P; endmodule").run(9, 2)
                    .is(0, pair[1].substring(0, 1).repeat(32) + pair[1]);
        }
    }

    /** A part of a parameter has its own WIDTH. */
    private static void partsOfParameters() {
        Case.of("parts", "module t; localparam P = 32'hf0f0f0ff; initial $write(\"%b|%b|%b|%b|%b\", P[2:1], P[31:28], P[8:7], P[31:0], P[0:0]); endmodule")
                .run(9, 2).logs("11|1111|01|11110000111100001111000011111111|1");
    }

    /** "worked out as if assigned to 32 bits .., and not cut; then they are signed numbers of that WIDTH." */
    private static void workedOut() {
        // The first end of a RANGE whose other end is 0, and the WIDTH that it makes.
        String[] ends = {"4'd15 + 4'd1", "8'hff + 8'd10 - 8'd255", "5'sd15 + 5'sd1", "(1'b1 << 4) + 1", "-4'sd8 + 9", "!5",
            "&4'hf + &4'hf", "{4'd1, 1'b1}", "2 * 3", "33'h1_ffffffff + 5", "7 / 2", "-7 / 2 + 5",
            "-7 % 4 + 4", "3 > 2 ? 9 : 1", "$signed(3'd7) + 9", "$unsigned(3'sd7)", "64'd63 & 64'd31"};
        int[] widths = {17, 11, 17, 18, 18, 1, 3, 4, 7, 5, 4, 3, 2, 10, 9, 8, 32};
        for (int k = 0; k < ends.length; k++) {
            Case c = Case.of(ends[k], "module t; reg [" + ends[k] + ":0] a; endmodule");
            c.due("WIDTH", c.theatre.told(0, 0), widths[k]);
        }
        Case.edge("32 bits without sign", 4, "module t; reg [32'hffffffff:-1] a; endmodule",
                "module t; reg [\u00a733'hffffffff:-1] a; endmodule");
        Case.edge("64 bits without sign", 4, "module t; reg [64'hffffffffffffffff:-1] a; endmodule",
                "module t; reg [\u00a764'h7fffffffffffffff:-1] a; endmodule");
        Case.edge("the highest bit of a parameter", 4, "module t; localparam P = -1; reg [P[31:31]:P[32] === 1'bx] a; endmodule",
                "module t; localparam P = -1; reg [P[\u00a732:31]:0] a; endmodule");
        Case.edge("bits of a parameter", 4, "module t; localparam P = 6; reg [P[2:1]:P[0]] a; endmodule",
                "module t; localparam P = 6; reg [P[\u00a732:1]:P[0]] a; endmodule");
    }

    /** "EXPRS of NUMBERS, parameters, localparams (as known there) and operators"; else 3 at the first TOKEN. */
    private static void noConstants() {
        item("a VARIABLE", 3, "reg [1 + P:0] b;", "reg [\u00a71 + v:0] b;");
        item("second", 3, "reg [1:P - 3] b;", "reg [1:\u00a70 * v] b;");
        item("a NET", 3, "reg m[P:0];", "reg m[\u00a7(w):0];");
        item("a bit", 3, "initial v = {P{v}};", "initial v = {\u00a7a[2]{v}};");
        item("a part", 3, "localparam Q = P;", "localparam Q = \u00a71 + a[5:2];");
        item("$time", 3, "localparam Q = P;", "localparam Q = \u00a7$time;");
        item("a word", 3, "reg m[1:0]; localparam Q = P;", "reg m[1:0]; localparam Q = \u00a7-m[0];");
        item("a MEMORY", 3, "reg m[1:0]; localparam Q = P;", "reg m[1:0]; localparam Q = \u00a71 + m;");
        item("a MEMORY's part", 3, "reg m[1:0]; localparam Q = P;", "reg m[1:0]; localparam Q = \u00a71 + m[1:0];");
        item("an instance", 3, "u x(); localparam Q = P; endmodule module u;",
                "u x(); localparam Q = \u00a71 + x; endmodule module u;");
        item("an instance's bit", 3, "u x(); localparam Q = P; endmodule module u;",
                "u x(); localparam Q = \u00a71 + x[0]; endmodule module u;");
        item("an instance's part", 3, "u x(); localparam Q = P; endmodule module u;",
                "u x(); localparam Q = \u00a71 + x[1:0]; endmodule module u;");
        item("a part's end in it", 3, "localparam Q = P[1:0];", "localparam Q = \u00a71 + P[v:0];");
        item("a part's other end in it", 3, "localparam Q = P[1:0];", "localparam Q = \u00a71 + P[1:v];");
        item("an index in it", 3, "localparam Q = P[1];", "localparam Q = \u00a7P[v];");
        item("a part's end", 3, "initial v = a[P:2];", "initial v = a[\u00a7v:2];");
        item("a part's second end", 3, "initial v = a[5:P];", "initial v = a[5:\u00a7v];");
        item("a LEFT's end", 3, "initial a[P:2] = 1;", "initial a[\u00a7P - v:2] = 1;");
        item("an EVENT's", 3, "initial @(a[P]) ;", "initial @(a[\u00a7P + v]) ;");
        item("a NET's bit", 3, "assign w[P] = 1;", "assign w[\u00a7P + v] = 1;");
        item("a linked one", 3, "u #(.Q(P)) x(); endmodule module u #(parameter Q = 1);",
                "u #(.Q(\u00a7P + v)) x(); endmodule module u #(parameter Q = 1);");
        item("not known there", 2, "localparam Q = P; localparam R = Q;", "localparam R = 1 + \u00a7Q; localparam Q = P;");
        item("a bit of what is not known", 2, "localparam Q = 1 + P[1];", "localparam Q = 1 + \u00a7q[1];");
        item("a part of what is not known", 2, "localparam Q = 1 + P[2:1];", "localparam Q = 1 + \u00a7q[2:1];");
        item("not its own", 2, "localparam Q = P;", "localparam Q = 1 + \u00a7Q;");
        item("not of another MODULE", 2, "u x(); endmodule module u; localparam Q = 1;",
                "u x(); endmodule module u; localparam Q = \u00a7P;");
    }

    /** "{ } above 64 (if none of their parts has a fault 2, 3, or of a CONSTANT)." */
    private static void bracesWithFaults() {
        String braces = "initial v = {64'd1, ";
        item("2 in it", 2, braces.replace("64", "63") + "v};", braces + "\u00a7q};");
        item("3 in it", 3, "reg m[1:0]; " + braces.replace("64", "63") + "m[1]};", "reg m[1:0]; " + braces + "\u00a7m};");
        item("4 in it", 4, braces.replace("64", "60") + "a[5:2]};", braces + "a[\u00a76:2]};");
        item("copies in it", 4, braces.replace("64", "60") + "{4{v}}};", braces + "{\u00a70{v}}};");
        item("no CONSTANT in it", 3, braces.replace("64", "60") + "{4{v}}};", braces + "{\u00a7v{v}}};");
        item("before it", 2, "initial v = v + {v};", "initial v = \u00a7q + {64'd1, v};");
        item("behind it", 4, "initial v = {v} + v;", "initial v = \u00a7{64'd1, v} + q;");
        item("braces in it", 4, "initial v = {{60'd1, v}};", "initial v = \u00a7{{64'd1, v}};");
        item("the inner one if the outer one has another fault", 4, "initial v = {{60'd1, v}, v};",
                "initial v = {\u00a7{64'd1, v}, q};");
        item("a wide one in a CONSTANT", 4, "localparam Q = {32'd0, 32'd1};", "localparam Q = 1 + \u00a7{32'd0, 32'd1, 1'b1};");
        item("wide copies", 4, "initial v = {2{32'd1}};", "initial v = \u00a7{2{32'd1, v}};");
        item("LEFTS", 2, "reg [63:0] b; initial {b} = 1;", "reg [63:0] b; initial {b, \u00a7q, v} = 1;");
    }
}
