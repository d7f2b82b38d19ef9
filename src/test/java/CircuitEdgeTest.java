/** Edges of CIRCUIT: the order of FLATTENING, parameters, ports and links, NETS and their drivers. */
public final class CircuitEdgeTest {
    public static void main(String[] args) {
        flattening();
        parameters();
        inputs();
        outputs();
        noLinks();
        atFirst();
        drivers();
        manyDrivers();
        partsOfNets();
        Case.close();
    }

    /** "FLATTENING goes through its ITEMS in order; at an instance .. its ports .., then its links, in order, then its ITEMS." */
    private static void flattening() {
        Case c = Case.of("order",
                "module v(input e); reg f; initial $write(\"v\"); endmodule module t(output z); reg a; initial $write(\"1\"); "
                + "u x(.p(a), .q(z)); reg b; initial $write(\"2\"); v y(); endmodule module u(input p, output q, input r); reg d; "
                + "initial $write(\"u\"); v w(.e(d)); wire g; endmodule");
        String[] names = {"z", "a", "x.p", "x.q", "x.r", "x.d", "x.w.e", "x.w.f", "x.g", "b", "y.e", "y.f"};
        c.count(1, names.length).count(2, 3).count(3, 5);
        for (int v = 0; v < names.length; v++) {
            c.dueText("NAME", c.name(v), names[v]);
        }
        c.run(99, 2).logs("1uv2v");
        // Links are ASSIGNS before those of the instance's own ITEMS, and in their own order.
        Case d = Case.of("links", "module t; wire a, b, c; u x(.p(a), .o(b), .n(c)); assign a = 1; endmodule "
                + "module u(input p, output n, output o); assign n = 1; assign o = 0; endmodule");
        String[][] steps = {{"z", "z", "z", "z"}, {"z", "z", "z", "z"}, {"z", "z", "z", "z"}, {"z", "z", "z", "1"}, {"z", "z",
                "z", "1"}};
        for (String[] step : steps) {
            d.theatre.run(1);
            d.is(0, step[0]).is(1, step[1]).is(2, step[2]).is(4, step[3]);
        }
        d.run(1, 0).is(0, "1").run(1, 0).is(2, "1").is(1, "z").run(1, 0).is(1, "0").is(3, "z").run(1, 2).is(3, "1");
    }

    private static void width(String sentence, int want, String text) {
        Case c = Case.of(sentence, text);
        c.due("WIDTH", c.theatre.told(c.theatre.count(1) - 1, 0), want);
    }

    /** "with its parameters as linked (or their own, as known there)." */
    private static void parameters() {
        String inner = " endmodule module u #(parameter A = 4, parameter B = A + 1, parameter C = A * B); reg [C:0] r; endmodule";
        width("their own", 21, "module t; u x();" + inner);
        width("the first linked", 7, "module t; u #(.A(2)) x();" + inner);
        width("the second linked", 9, "module t; u #(.B(2)) x();" + inner);
        width("the last linked", 3, "module t; u #(.C(2)) x();" + inner);
        width("in any order", 16, "module t; u #(.B(5), .A(3)) x();" + inner);
        width("empty", 21, "module t; u #(.A(), .B(), .C()) x();" + inner);
        width("worked out outside", 7, "module t; localparam A = 2; u #(.A(A)) x();" + inner);
        width("not with those inside", 3, "module t #(parameter B = 1); u #(.A(B), .C(B + B)) x();" + inner);
        width("of the TOP", 13, "module t #(parameter A = 3, parameter B = A * 4); reg [B:0] r; endmodule");
        width("through two", 9, "module t; v #(.P(2)) x(); endmodule module v #(parameter P = 1); u #(.A(P), .B(P + 2)) y();"
                + inner);
        width("in a port", 5, "module t; u #(.P(4)) x(); endmodule module u #(parameter P = 1) (input [P:0] a); endmodule");
        Case c = Case.of("each its own", "module t; u #(.P(1)) x(); u y(); u #(.P(3)) z(); endmodule "
                + "module u #(parameter P = 2); localparam Q = P * 2; reg [Q:0] r; initial $write(\"%0d\", Q); endmodule");
        c.run(99, 2).logs("246");
    }

    /** "A link to an input is an ASSIGN of the EXPR (worked out outside) to the port." */
    private static void inputs() {
        String[][] pairs = {{"4'b1010", "1010"}, {"5'b11010", "1010"}, {"2'b10", "0010"}, {"2'sb10", "1110"}, {"2'bxz", "00xz"},
                {"2'sbz0", "zzz0"},
            {"a + a", "1110"}, {"{a, a}", "1111"}, {"P", "1110"}, {"m[1]", "0101"}, {"s", "1111"}};
        for (String[] pair : pairs) {
            Case c = Case.of(pair[0], "module t; localparam P = -2; reg [2:0] a; reg [3:0] m[0:1]; reg signed s; "
                    + "u x(.i(" + pair[0]
                            + ")); initial begin a = 7; s = 1; m[1] = 5; end endmodule module u(input [3:0] i); endmodule");
            c.run(99, 2).is(3, pair[1]);
        }
        // NAMES inside and outside are not the same.
        Case c = Case.of("outside", "module t; reg a, b; u x(.a(b), .b(a)); initial begin a = 0; b = 1; end endmodule "
                + "module u(input a, input b); endmodule");
        c.run(99, 2).is(2, "1").is(3, "0");
        // A port can be driven inside, too.
        Case.of("driven twice", "module t; u x(.a(1'b1)); endmodule module u(input a); assign a = 0; endmodule").run(99,
                2).is(0, "x");
    }

    /** "one to an output an ASSIGN of the port to the EXPR, which must have the form of a LEFT .., of NETS." */
    private static void outputs() {
        String[] links = {"w", "w[3]", "w[2:1]", "{w[0], w[1], w[2], w[3]}", "{v, w[3:1]}", "{{v, v}, {w[0]}}", "w[9]",
                "{w[9], w[0]}"};
        String[] wants = {"0101", "1zzz", "z01z", "1010", "101z", "zzz1", "zzzz", "zzz1"};
        for (int k = 0; k < links.length; k++) {
            Case c = Case.of(links[k], "module t; wire [3:0] w; wire v; u x(.o(" + links[k] + ")); endmodule "
                    + "module u(output [3:0] o); assign o = 4'b0101; endmodule");
            c.run(99, 2).is(0, wants[k]);
        }
        Case c = Case.of("a reg", "module t; wire [7:0] w; wire [1:0] v; u x(.o(w), .p(v)); endmodule "
                + "module u(output reg signed [3:0] o, output reg [3:0] p); initial begin o = 4'b1010; p = 4'b1001; end endmodule");
        c.run(99, 2).is(0, "11111010").is(1, "01");
        c.theatre.set(2, 0, 3, 0);
        c.run(99, 2).is(0, "00000011");
    }

    /** "an empty one or none is nothing." */
    private static void noLinks() {
        for (String links : new String[] {"", ".i(), .o()", ".o()", ".i()"}) {
            Case c = Case.of(links, "module t; u x(" + links
                    + "); endmodule module u(input [1:0] i, output o); assign o = i[0]; endmodule");
            c.count(2, 1).run(99, 2).is(0, "zz").is(1, "z");
        }
    }

    /** "VARIABLES ..; all bits x at first. NETS ..; z at first." */
    private static void atFirst() {
        Case c = Case.of("at first",
                "module t(input a, output b, output reg c, input wire [1:0] d); reg [63:0] e; integer f; reg [1:0] g[0:1]; "
                + "wire h; wand [2:0] i; wor j; assign h = 1; initial c = 1; endmodule");
        String[] want = {"z", "z", "x", "zz", "x".repeat(64), "x".repeat(32), "xx", "z", "zzz", "z"};
        for (int v = 0; v < want.length; v++) {
            c.is(v, want[v]);
        }
        c.is(6, 1, "xx").run(99, 2).is(7, "1").is(2, "1").is(0, "z");
        // What is not driven stays so.
        c.is(8, "zzz").is(9, "z").is(3, "zz");
    }

    private static char resolved(String kind, String bits) {
        String driving = bits.replace("z", "");
        if (driving.isEmpty()) {
            return 'z';
        }
        if (kind.equals("wand") && driving.indexOf('0') >= 0) {
            return '0';
        }
        if (kind.equals("wor") && driving.indexOf('1') >= 0) {
            return '1';
        }
        return driving.replace(driving.substring(0, 1), "").isEmpty() ? driving.charAt(0) : 'x';
    }

    /** "z if none is; the one that all are; else x; of a wand 0 if one is 0, of a wor 1 if one is 1." */
    private static void drivers() {
        String bits = "01xz";
        for (String kind : new String[] {"wire", "wand", "wor"}) {
            StringBuilder one = new StringBuilder();
            StringBuilder two = new StringBuilder();
            StringBuilder three = new StringBuilder();
            StringBuilder want = new StringBuilder();
            for (int k = 0; k < 64; k++) {
                one.append(bits.charAt(k / 16));
                two.append(bits.charAt(k / 4 % 4));
                three.append(bits.charAt(k % 4));
                want.append(resolved(kind, "" + bits.charAt(k / 16) + bits.charAt(k / 4 % 4) + bits.charAt(k % 4)));
            }
            Case.of(kind, "module t; " + kind + " [63:0] w; assign w = 64'b" + one + "; assign w = 64'b" + two
                    + "; assign w = 64'b" + three
                    + "; endmodule").run(9, 2).is(0, want.toString());
        }
    }

    /** As many as there may be. */
    private static void manyDrivers() {
        for (String kind : new String[] {"wire", "wand", "wor"}) {
            String text = "module t; " + kind + " w; reg a; " + "assign w = 1'bz; ".repeat(398)
                    + "assign w = a; assign w = 1; endmodule";
            Case c = Case.of(kind, text).run(999, 2).is(0, kind.equals("wor") ? "1" : "x");
            c.theatre.set(1, 0, 0, 0);
            c.run(9, 2).is(0, kind.equals("wire") ? "x" : kind.equals("wor") ? "1" : "0");
            c.theatre.set(1, 0, 1, 0);
            c.run(9, 2).is(0, "1");
            c.theatre.set(1, 0, 0, 1);
            c.run(9, 2).is(0, "1");
        }
    }

    /** "each driven by its ASSIGNS, bit by bit", "with constant indices". */
    private static void partsOfNets() {
        Case.of("parts", "module t; wire [5:2] w; assign w[5] = 1; assign w[4:3] = 2'b0x; assign w[6] = 1; assign w[1] = 1; endmodule")
                .run(9, 2).is(0, "10xz");
        Case.of("the same bits", "module t; wire [3:0] w; assign w[3:1] = 3'b101; assign w[2:0] = 3'b011; endmodule").run(9,
                2).is(0, "1011");
        Case.of("of 64", "module t; wire [63:0] w; assign w[63] = 1; assign w[62:0] = -1; endmodule").run(9, 2).is(0,
                "1".repeat(64));
        Case.of("from the left",
                "module t; wire a, b; reg r; assign {a, b} = {2{r}}; initial begin #1 r = 1; end always @(a) $write(\"a%b\", b); "
                + "always @(b) $write(\"b%b\", a); endmodule").run(99, 2).logs("a1b1");
        Case.of("no change", "module t; wire w; reg r; assign w = r; initial #1 r = 1'bx; always @(w) $write(\"w\"); initial #2 r = 0; endmodule")
                .run(99, 2).logs("w");
    }
}
