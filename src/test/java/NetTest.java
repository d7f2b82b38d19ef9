/** Terms, CIRCUIT: NETS and their drivers, instances, links and parameters. */
public final class NetTest {
    public static void main(String[] args) {
        drivers();
        parts();
        links();
        parameters();
        Case.close();
    }

    /** Two drivers of one bit, for each pair of bits, and what is made of them. */
    private static void drivers() {
        String bits = "01xz";
        String wire = "0xx0" + "x1x1" + "xxxx" + "01xz";
        String wand = "0000" + "01x1" + "0xxx" + "01xz";
        String wor = "01x0" + "1111" + "x1xx" + "01xz";
        for (int one = 0; one < 4; one++) {
            for (int other = 0; other < 4; other++) {
                String items = "wire a; wand b; wor c; ";
                for (String net : new String[] {"a", "b", "c"}) {
                    items += "assign " + net + " = 1'b" + bits.charAt(one) + "; assign " + net + " = 1'b"
                            + bits.charAt(other) + "; ";
                }
                int at = 4 * one + other;
                Case.of(items, "module t; " + items + "endmodule").run(99, 2)
                        .is(0, wire.substring(at, at + 1)).is(1, wand.substring(at, at + 1))
                        .is(2, wor.substring(at, at + 1));
            }
        }
        Case.of("three", "module t; wor a; wand b; assign a = 1'bx; assign a = 0; assign a = 1; "
                + "assign b = 1'bx; assign b = 1; assign b = 0; endmodule").run(99, 2).is(0, "1").is(1, "0");
    }

    private static void parts() {
        Case c = Case.of("parts", "module t; wire [5:2] w; wire v; reg [2:0] r; assign w[4:3] = r; "
                + "assign {v, w[2]} = r; assign w[9] = r; endmodule");
        c.is(0, "zzzz").is(1, "z").run(99, 2).is(0, "zxxx").is(1, "x");
        c.theatre.set(2, 0, 6, 0);
        c.run(99, 2).is(0, "z100").is(1, "1");
        Case.of("one NAME twice", "module t; wire [1:0] w; assign {w, w} = 4'b0110; endmodule")
                .run(99, 2).is(0, "xx");
        Case.of("from the left", "module t; wire a, b; assign {a, b} = 3; initial @(a) $write(\"a\"); "
                + "initial @(b) $write(\"b\"); endmodule").run(99, 2).logs("");
        Case d = Case.of("the order of CHANGES", "module t; wire a, b; reg r; assign {b, a} = {2{r}}; "
                + "initial @(a) $write(\"a\"); initial @(b) $write(\"b\"); endmodule");
        d.run(99, 2).logs("");
        d.theatre.set(2, 0, 1, 0);
        d.run(99, 2).logs("ba");
        Case e = Case.of("not twice", "module t; reg a, b; wire w; assign w = a & b & a; endmodule");
        e.run(99, 2);
        e.theatre.set(0, 0, 1, 0);
        e.theatre.set(1, 0, 1, 0);
        e.count(6, 1).run(99, 2).count(5, 2).is(2, "1");
        Case.of("in a ring", "module t; wire a, b; assign a = ~b; assign b = a; endmodule")
                .run(99, 2).is(0, "x").is(1, "x");
        Case.of("signed", "module t; wire signed [3:0] a; wire [7:0] b; assign a = -2; assign b = a; endmodule")
                .run(99, 2).is(1, "11111110");
    }

    private static void links() {
        String adder = "module add(input [3:0] a, input [3:0] b, output [3:0] s, output reg c); "
                + "assign s = a + b; always @* c = a + b > 5'd15; endmodule ";
        Case c = Case.of("adder", adder + "module t; reg [3:0] x, y; wire [3:0] s; wire c; "
                + "add one(.a(x), .s(s), .b(y), .c(c)); endmodule");
        c.count(2, 5).count(3, 1).run(99, 2);
        c.theatre.set(0, 0, 9, 0);
        c.theatre.set(1, 0, 8, 0);
        c.run(99, 2).is(2, "0001").is(3, "1").is(4, "1001");
        Case d = Case.of("WIDTHS", "module t; wire [7:0] w; wire [1:0] v; u x(.i(4'sb1000), .o(w)); "
                + "u y(.i(8'hff), .o({v[0], v[1]})); u z(.i(), .o()); u q(); endmodule "
                + "module u(input [5:0] i, output signed [2:0] o); assign o = i[5:3]; endmodule");
        d.count(2, 8).run(99, 2).is(0, "11111111").is(1, "11").is(2, "111000").is(4, "111111").is(6, "zzzzzz")
                .is(7, "zzz");
        Case e = Case.of("order", "module t; wire w; initial $write(\"1\"); u x(.a(w)); initial $write(\"4\"); "
                + "endmodule module u(input a); initial $write(\"2\"); v y(); endmodule "
                + "module v; initial $write(\"3\"); endmodule");
        e.run(99, 2).logs("1234");
    }

    private static void parameters() {
        Case c = Case.of("parameters", "module t; localparam N = 3; u #(.B(N + 1)) x(); u #(.A(2)) y(); u z(); "
                + "u #(.A(64'h1_0000_0005), .B()) q(); endmodule "
                + "module u #(parameter A = 1, parameter B = A + 1); reg [A:0] a; reg [B:0] b; "
                + "localparam C = B * 2; reg [C:0] c; endmodule");
        int[] widths = {2, 5, 9, 3, 4, 7, 2, 3, 5, 6, 7, 13};
        for (int v = 0; v < widths.length; v++) {
            c.due("WIDTH of " + v, c.theatre.told(v, 0), widths[v]);
        }
        Case.of("signed", "module t; localparam P = 32'hffffffff; reg a; initial a = P < 0; endmodule")
                .run(9, 2).is(0, "1");
        Case d = Case.of("with 32 bits", "module t; localparam P = 4'd15 + 4'd1; reg [P:0] a; endmodule");
        d.due("WIDTH", d.theatre.told(0, 0), 17);
    }
}
