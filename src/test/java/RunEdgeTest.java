/** Edges of promise 6: n, what is paid and done, what is answered, and that no call of run does more or less. */
public final class RunEdgeTest {
    private static final String[] TEXTS = {
        "module t; reg a; integer i; initial begin a = 0; for (i = 0; i < 3; i = i + 1) a = ~a; end endmodule",
        "module t; reg a, b; wire w; assign w = a & b; initial begin a = 1; b <= 1; #0 a = 0; #2 a = 1; end "
            + "always @(w) b <= #1 ~w; initial wait (b) $write(\"b\"); initial #9 $finish; endmodule",
        "module t; integer i; reg [3:0] m[0:3]; initial begin i = 4; while (i) begin i = i - 1; m[i] = i; end "
            + "repeat (2) case (i) 0: ; default: ; endcase if (i) ; else #1 ; end endmodule",
        "module t; reg c; reg [3:0] q; wire [3:0] n; u x(.c(c), .q(q), .n(n)); initial begin c = 0; q = 0; repeat (6) #5 c = ~c; end "
            + "always @(posedge c) q <= n; endmodule module u(input c, input [3:0] q, output [3:0] n); assign n = q + 1; endmodule",
        "module t; reg a, b; initial begin a = #1 1; b = @(a) 0; end initial begin #2 a = 0; $display(\"%b%b\", a, b); end "
            + "always @* b = a; endmodule",
        "module t; endmodule", "module t; initial ; endmodule", "module t; initial #1 ; initial #0 ; endmodule",
        "module t; reg a; initial forever @(a) ; initial begin a = 0; a = 1; a <= 0; end endmodule"};

    public static void main(String[] args) {
        bounds();
        noCircuit();
        oneByOne();
        nothingLeft();
        midst();
        noRegionMoved();
        finished();
        setBehind();
        Case.close();
    }

    /** "n (1 .. 20000)." */
    private static void bounds() {
        Case c = Case.of("n", "module t; integer i; initial begin i = 0; forever i = i + 1; end endmodule");
        c.run(1, 0).count(5, 1).run(20000, 0).count(5, 20001);
        int[] wrong = {0, -1, 20001, Integer.MAX_VALUE, Integer.MIN_VALUE};
        for (int n : wrong) {
            c.refusedUnchanged("run(" + n + ")", IllegalArgumentException.class, () -> c.theatre.run(n));
        }
        c.run(1, 0).count(5, 20002);
    }

    /** "No CIRCUIT: IllegalStateException (behind bad)." */
    private static void noCircuit() {
        Case c = new Case("no CIRCUIT");
        c.refusedUnchanged("run(1)", IllegalStateException.class, () -> c.theatre.run(1));
        c.refusedUnchanged("run(20000)", IllegalStateException.class, () -> c.theatre.run(20000));
        c.refusedUnchanged("run(0)", IllegalArgumentException.class, () -> c.theatre.run(0));
        c.refusedUnchanged("run(20001)", IllegalArgumentException.class, () -> c.theatre.run(20001));
        // A FAULT does not bring one.
        c.faulty(1, 0, "");
        c.refusedUnchanged("run(1)", IllegalStateException.class, () -> c.theatre.run(1));
        c.build("module t; endmodule");
        c.run(1, 2);
        c.faulty(1, 0, "");
        c.run(1, 2);
    }

    /** "STEPS are done that cost n in all; then nothing more is done, in the midst of a process too." */
    private static void oneByOne() {
        for (String text : TEXTS) {
            Case single = Case.of(text, text);
            for (int n = 1; n <= 70; n++) {
                int answer = single.theatre.run(1);
                Case whole = Case.of(text, text).run(n, answer);
                whole.dueText("run(" + n + ")", whole.circuit(), single.circuit());
                Case parted = Case.of(text, text);
                if (n > 1) {
                    parted.theatre.run(n / 2);
                    parted.run(n - n / 2, answer);
                    parted.dueText("run(" + n / 2 + ") and the rest", parted.circuit(), single.circuit());
                }
                if (answer == 0) {
                    single.count(5, n);
                }
            }
        }
    }

    /** "2 if nothing is left to be done (also if all of n was paid ..)." */
    private static void nothingLeft() {
        String[] texts = {"initial ;", "initial begin a = 1; end", "initial #1 ;", "initial a <= 1;", "initial @(a) ;",
                "initial wait (0) ;",
            "initial @* a = b;", "assign w = a;", "initial if (0) ; else ;", "initial if (0) ;", "initial case (0) 1: ; endcase",
            "initial repeat (0) ;", "initial repeat (2) ;", "initial while (0) ;", "initial for (a = 0; a == 0; a = 1) ;",
                    "initial $write(\"a\");",
            "initial a = #1 1;", "initial a = @(b) 1;", "always @(a) ;", "always wait (0) ;", "initial a <= #3 0;"};
        int[] costs = {2, 3, 4, 3, 2, 2, 2, 1, 3, 2, 2, 2, 6, 2, 4, 2, 3, 2, 2, 2, 3};
        for (int k = 0; k < texts.length; k++) {
            String text = "module t; reg a, b; wire w; " + texts[k] + " endmodule";
            Case.of(texts[k], text).run(costs[k], 2).count(5, costs[k]).run(1, 2).count(5, costs[k]);
            Case.of(texts[k], text).run(costs[k] + 1, 2).count(5, costs[k]);
            if (costs[k] > 1) {
                Case.of(texts[k], text).run(costs[k] - 1, 0).count(5, costs[k] - 1).run(1, 2).count(5, costs[k]);
            }
        }
    }

    /** Each STATEMENT costs 1 before it, a loop 1 more each time before its STATEMENT. */
    private static void midst() {
        Case c = Case.of("midst", "module t; reg a, b; initial begin begin a = 0; ; end if (1) a = 1; while (a) begin a = 0; end "
                + "repeat (1) b = 0; end initial b = 1; endmodule");
        String[] values = {"xx", "xx", "xx", "0x", "0x", "0x", "1x", "1x", "1x", "1x", "0x", "0x", "0x", "00", "00", "01"};
        for (String value : values) {
            c.theatre.run(1);
            c.dueText("values at " + c.theatre.count(5), c.bits(0, 0) + c.bits(1, 0), value);
        }
        c.run(1, 2).count(5, 16);
    }

    /** "(no REGION is moved)." */
    private static void noRegionMoved() {
        Case c = Case.of("INACTIVE", "module t; reg a; initial #0 a = 1; endmodule").run(2, 0);
        c.count(6, 0).count(7, 1).run(1, 0).count(7, 0).count(6, 0).run(1, 2).is(0, "1");
        c = Case.of("LATER", "module t; reg a, b; initial begin a <= 1; b <= 1; end endmodule").run(4, 0);
        c.count(6, 0).count(8, 2).run(1, 0).count(8, 0).count(6, 1).is(0, "1").is(1, "x").run(1, 2);
        c = Case.of("FUTURE", "module t; reg a, b; initial #3 a = 1; initial b <= #3 1; endmodule").run(4, 0);
        c.count(9, 2).time(0).run(1, 0).count(9, 0).time(3).count(6, 0).count(8, 1).run(1, 0).is(0, "1").count(8, 1).run(1,
                2).is(1, "1");
        c = Case.of("at the end", "module t; initial #3 ; endmodule").run(2, 0).time(0).run(2, 2).time(3);
    }

    /** "Answers 1 by $finish .. 1 or 3 again, doing nothing, from then on." */
    private static void finished() {
        Case c = Case.of("$finish", "module t; reg a; initial begin a <= 1; #0 $finish; a = 0; end initial #1 a = 0; "
                + "always @(a) ; endmodule");
        c.run(8, 0).run(1, 0).run(1, 1).count(5, 10).count(6, 0).count(8, 1).count(9, 1).count(10, 1);
        String before = c.all();
        c.run(1, 1).run(20000, 1);
        c.dueText("doing nothing", c.all(), before);
        c.refusedUnchanged("run(0)", IllegalArgumentException.class, () -> c.theatre.run(0));
        // A FAULT leaves it at its end, a new CIRCUIT does not.
        c.faulty(1, 0, "");
        c.run(5, 1).due("build()", c.build("module t; reg a; initial a = 1; endmodule"), 1);
        c.run(5, 2).is(0, "1");
        Case.of("at once", "module t; initial $finish; initial $write(\"a\"); endmodule").run(1, 0).run(1, 1).logs("").count(6, 1);
    }

    /** "what set() brings is done by a later one". */
    private static void setBehind() {
        Case c = Case.of("set()", "module t; reg a, b; wire w; assign w = a; always @(posedge a) b <= a; endmodule").run(3, 2);
        c.theatre.set(0, 0, 1, 0);
        c.count(6, 2).count(5, 3).is(2, "x").run(1, 0).run(1, 0).count(8, 1).is(1, "x");
        c.run(20, 2).is(1, "1").is(2, "1").count(5, 8);
    }
}
