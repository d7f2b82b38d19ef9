/** Promises 7 and 8: values are told, and set as by a STATEMENT. */
public final class ValueSetTest {
    public static void main(String[] args) {
        values();
        sets();
        changes();
        Case.close();
    }

    private static void values() {
        Case c = Case.of("values", "module t(input p, output reg q); reg [3:0] a; reg [63:0] m[5:3]; "
                + "wire [1:0] w; initial begin a = 4'b01xz; m[3] = 64'h8000000000000001; m[5] = 7; end "
                + "endmodule");
        c.run(50, 2).is(0, "z").is(1, "x").is(2, "01xz").is(4, "zz");
        c.due("part 0", c.theatre.value(2, 0, 0), 6);
        c.due("part 1", c.theatre.value(2, 0, 1), 3);
        c.due("word 0", c.theatre.value(3, 0, 0), 0x8000000000000001L);
        c.due("word 0, unknown", c.theatre.value(3, 0, 1), 0);
        c.due("word 1", c.theatre.value(3, 1, 0), -1);
        c.due("word 1, unknown", c.theatre.value(3, 1, 1), -1);
        c.due("word 2", c.theatre.value(3, 2, 0), 7);
        c.notThere("value(3, 3, 0)", () -> c.theatre.value(3, 3, 0));
        c.notThere("value(3, -1, 0)", () -> c.theatre.value(3, -1, 0));
        c.notThere("value(2, 1, 0)", () -> c.theatre.value(2, 1, 0));
        c.notThere("value(5, 0, 0)", () -> c.theatre.value(5, 0, 0));
        c.notThere("value(-1, 0, 0)", () -> c.theatre.value(-1, 0, 0));
        c.bad("value(0, 0, 2)", () -> c.theatre.value(0, 0, 2));
        c.bad("value(9, 0, -1)", () -> c.theatre.value(9, 0, -1));
    }

    private static void sets() {
        Case c = Case.of("sets", "module t; reg [3:0] a; reg [3:0] m[0:1]; wire w; integer i; endmodule");
        c.theatre.set(0, 0, 0xf5, 0xf6);
        c.is(0, "0xz1");
        c.theatre.set(0, 0, -1, 0);
        c.is(0, "1111");
        c.theatre.set(1, 1, 3, 0);
        c.is(1, 1, "0011").is(1, 0, "xxxx");
        c.theatre.set(3, 0, 0x1ffffffffL, 1L << 32);
        c.is(3, "1".repeat(32));
        c.notThere("set a NET", () -> c.theatre.set(2, 0, 0, 0));
        c.notThere("set(0, 1)", () -> c.theatre.set(0, 1, 0, 0));
        c.notThere("set(1, 2)", () -> c.theatre.set(1, 2, 0, 0));
        c.notThere("set(1, -1)", () -> c.theatre.set(1, -1, 0, 0));
        c.notThere("set(4, 0)", () -> c.theatre.set(4, 0, 0, 0));
        c.notThere("set(-1, 0)", () -> c.theatre.set(-1, 0, 0, 0));
        c.is(0, "1111").is(2, "z");
    }

    private static void changes() {
        Case c = Case.of("changes", "module t; reg [1:0] a; reg m[0:1]; wire [1:0] w; integer n; "
                + "assign w = ~a; assign w[0] = m[1]; "
                + "initial n = 0; always @(posedge a[1]) n = n + 1; endmodule");
        c.run(50, 2).count(10, 1).count(6, 0);
        c.theatre.set(0, 0, 0, 0);
        c.count(10, 1).count(6, 1);
        c.theatre.set(0, 0, 2, 0);
        c.count(10, 0).count(6, 2);
        c.theatre.set(0, 0, 0, 0);
        c.count(6, 2).run(50, 2).is(2, "1x").due("n", c.theatre.value(3, 0, 0), 1);
        c.theatre.set(0, 0, 0, 0);
        c.count(6, 0);
        c.theatre.set(1, 0, 1, 0);
        c.count(6, 1).run(50, 2).is(2, "1x");
        c.theatre.set(1, 1, 1, 0);
        c.run(50, 2).is(2, "11");
    }
}
