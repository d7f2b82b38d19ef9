/** Promise 6: STEPS are done that cost n, and what run answers. */
public final class RunTest {
    public static void main(String[] args) {
        bounds();
        costs();
        pauses();
        regions();
        ends();
        tooMany();
        Case.close();
    }

    private static void bounds() {
        Case c = Case.of("bounds", "module t; endmodule");
        c.bad("run(0)", () -> c.theatre.run(0));
        c.bad("run(-1)", () -> c.theatre.run(-1));
        c.bad("run(20001)", () -> c.theatre.run(20001));
        c.run(1, 2).run(20000, 2).count(5, 0);
        Case d = Case.of("20000", "module t; reg a; initial forever a = 1; endmodule");
        d.run(20000, 0).count(5, 20000).run(20000, 0).count(5, 40000);
    }

    /** Each EVENT 1, each STATEMENT 1, a loop 1 more each time. */
    private static void costs() {
        Case.of("empty", "module t; initial ; endmodule").run(9, 2).count(5, 2);
        Case.of("block", "module t; initial begin end endmodule").run(9, 2).count(5, 2);
        Case.of("if", "module t; initial if (1) ; else begin ; end endmodule").run(9, 2).count(5, 3);
        Case.of("else", "module t; initial if (1'bx) ; else begin ; end endmodule").run(9, 2).count(5, 4);
        Case.of("no else", "module t; initial if (0) ; endmodule").run(9, 2).count(5, 2);
        Case.of("case", "module t; initial case (1) 0: ; 1: ; endcase endmodule").run(9, 2).count(5, 3);
        Case.of("no case", "module t; initial case (1) 0: ; endcase endmodule").run(9, 2).count(5, 2);
        Case.of("for", "module t; integer i; initial for (i = 0; i < 3; i = i + 1) ; endmodule")
                .run(20, 2).count(5, 8);
        Case.of("while", "module t; integer i; initial begin i = 2; while (i) i = i - 1; end endmodule")
                .run(20, 2).count(5, 8);
        Case.of("repeat", "module t; initial repeat (3) ; endmodule").run(20, 2).count(5, 8);
        Case.of("repeat x", "module t; initial repeat (2'b1x) ; endmodule").run(20, 2).count(5, 2);
        Case.of("#", "module t; initial #1 ; endmodule").run(20, 2).count(5, 4);
        Case.of("wait", "module t; initial wait (1) ; endmodule").run(20, 2).count(5, 3);
        Case.of("assign", "module t; wire a, b; assign a = 1; assign b = a; endmodule")
                .run(20, 2).count(5, 2);
        Case.of("later", "module t; reg a, b; initial {a, b} <= 3; endmodule").run(20, 2).count(5, 4);
        Case.of("display", "module t; initial $display; endmodule").run(20, 2).count(5, 2);
    }

    private static void pauses() {
        Case c = Case.of("in the midst", "module t; reg a; integer i; "
                + "initial begin a = 0; for (i = 0; i < 2; i = i + 1) a = ~a; a = 1'bz; end endmodule");
        c.run(1, 0).is(0, "x").count(6, 0).run(1, 0).is(0, "x").run(1, 0).is(0, "0");
        c.run(1, 0).due("i", c.theatre.value(1, 0, 0), 0);
        c.run(1, 0).is(0, "0").run(1, 0).is(0, "1");
        // The last one of a for costs nothing and is done with what was paid before it.
        c.due("i", c.theatre.value(1, 0, 0), 1);
        c.run(2, 0).is(0, "0").due("i", c.theatre.value(1, 0, 0), 2);
        c.count(11, 0).run(1, 2).is(0, "z").count(11, 1).count(5, 9).run(1, 2).count(5, 9);
    }

    private static void regions() {
        Case c = Case.of("no REGION is moved", "module t; reg a, b, c; "
                + "initial begin b <= 1; #0 a = 1; #4 c <= #2 1; end endmodule");
        c.run(4, 0).count(6, 0).count(7, 1).count(8, 1).count(9, 0).is(0, "x");
        c.run(1, 0).count(7, 0).count(8, 1).is(0, "x").run(1, 0).is(0, "1").is(1, "x");
        c.run(1, 0).count(9, 1).count(8, 1).time(0).run(1, 0).is(1, "1").count(8, 0).time(0);
        c.run(1, 0).time(4).count(9, 0).run(1, 0).count(9, 1).count(11, 1).is(2, "x");
        c.run(1, 2).time(6).is(2, "1").count(9, 0).count(5, 11);
    }

    private static void ends() {
        Case c = Case.of("$finish", "module t; reg a; initial begin a = 0; $finish; a = 1; end "
                + "always @(a) a <= #1 ~a; endmodule");
        c.run(100, 1).is(0, "0").count(5, 4).run(1, 1).run(100, 1).count(5, 4).count(6, 1).count(11, 0);
        c.bad("run(0)", () -> c.theatre.run(0));
        c.theatre.set(0, 0, 1, 0);
        c.is(0, "1").run(100, 1).is(0, "1").count(5, 4);
        Case d = Case.of("nothing is left", "module t; reg a, b; always @(a) b = a; endmodule");
        d.run(2, 2).count(10, 1);
        d.theatre.set(0, 0, 1, 0);
        d.count(6, 1).count(10, 0).run(1, 0).run(2, 2).is(1, "1").count(10, 1);
    }

    private static void tooMany() {
        Case c = Case.of("4000 EVENTS", "module t; reg a, b; integer i; initial begin "
                + "for (i = 0; i < 2000; i = i + 1) {a, b} <= #5 i; a = 1; a <= 0; end endmodule");
        c.run(20000, 3).count(9, 4000).count(8, 0).is(0, "1").run(1, 3).count(5, 4005);
        Case d = Case.of("4000 EVENTS are not too many", "module t; reg a, b; integer i; initial "
                + "for (i = 0; i < 2000; i = i + 1) {a, b} <= #5 i; endmodule");
        d.run(20000, 2).is(0, "1").is(1, "1").time(5);
        Case e = Case.of("again", "module t; reg a; always begin repeat (4000) a <= 1; #1 ; end endmodule");
        e.run(20000, 0).run(20000, 0).run(20000, 0).time(4);
    }
}
