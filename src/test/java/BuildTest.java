/** Promises 4 and 5: a TEXT becomes THE CIRCUIT, or a FAULT is told and all stays. */
public final class BuildTest {
    private static final String GOOD =
            "module t; reg [3:0] a; wire b; assign b = a[0]; "
            + "initial begin a = 5; $display(\"%d\", a); #3 a = 6; end endmodule";

    public static void main(String[] args) {
        Case c = Case.of("build", GOOD);
        c.count(1, 2).count(2, 1).count(3, 1).count(4, 0).count(5, 0).count(6, 2).time(0);
        c.run(100, 2).time(3).is(0, "0110").is(1, "0").logs(" 5\n").count(5, 10);

        c.faulty(1, "module t; reg [3:0] \u00a7; endmodule");
        c.count(0, 0).time(3).is(0, "0110").logs(" 5\n").count(5, 10).count(1, 2);
        c.faulty(2, "module t; reg a; initial \u00a7b = 1; endmodule");
        c.count(0, 0).time(3).is(0, "0110").logs(" 5\n").count(5, 10).count(1, 2).run(1, 2);

        c.due("build()", c.build("module u; integer i; endmodule"), 1);
        c.due("fault(0) stays", c.theatre.fault(0), 2);
        c.due("fault(1) stays", c.theatre.fault(1), 25);
        c.time(0).logs("").count(5, 0).count(3, 0).run(5, 2);
        c.bad("fault(2)", () -> c.theatre.fault(2));
        c.bad("fault(-1)", () -> c.theatre.fault(-1));

        c.faulty(1, 0, "");
        c.due("build()", c.build("module u; endmodule"), 0);
        c.due("build()", c.build(GOOD), 2);
        c.is(0, "xxxx").is(1, "z").run(2, 0);
        Case.close();
    }
}
