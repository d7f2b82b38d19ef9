/** Edges of TIME, REGIONS, EVENTS, processes and setting. */
public final class EventEdgeTest {
    public static void main(String[] args) {
        delays();
        laterDelays();
        heldDelays();
        order();
        sameTime();
        awaited();
        starred();
        waits();
        notBefore();
        settings();
        laterSettings();
        tooMany();
        changes();
        cases();
        loops();
        Case.close();
    }

    private static Case of(String names, String items) {
        return Case.of(items, "module t; " + names + " " + items + " endmodule");
    }

    /** "# E: E (x or z: 0; without sign; above 1000000000: that) 0: it goes to INACTIVE; else to FUTURE, ACTIVE." */
    private static void delays() {
        String[] delays = {"0", "1'bx", "4'b1z01", "64'bz", "1", "1000000000", "1000000001", "2147483647", "(-1)", "(-1'sb1)",
            "64'hffffffffffffffff", "64'h8000000000000000", "64'd1000000000", "64'd1000000001", "64'd4294967296", "1'sb1",
            "4'sb1000", "a", "(a - 4)", "a[1:0]", "{1'b1, a[0]}"};
        long[] times = {0, 0, 0, 0, 1, 1000000000, 1000000000, 1000000000, 1000000000, 1, 1000000000, 1000000000, 1000000000,
            1000000000, 1000000000, 1, 8, 3, 1000000000, 3, 3};
        for (int k = 0; k < delays.length; k++) {
            Case c = of("reg [2:0] a;", "initial begin a = 3; #" + delays[k] + " ; end");
            c.run(4, 0).count(7, times[k] == 0 ? 1 : 0).count(9, times[k] == 0 ? 0 : 1).count(6, 0).time(0);
            c.run(1, 0).time(times[k]).count(7, 0).count(9, 0).run(1, 2).count(5, 6).count(11, 1);
        }
        Case c = of("reg [63:0] a;", "initial begin repeat (9) #1000000000 ; a = $time; end");
        c.run(99, 2).time(9000000000L).due("$time", c.theatre.value(0, 0, 0), 9000000000L);
    }

    /** "with # E to FUTURE, LATER; # 0: LATER." */
    private static void laterDelays() {
        String[] delays = {"", "#0 ", "#1'bx ", "#1 ", "#1000000000 ", "#1000000001 ", "#(-1) ", "#4'sb1000 "};
        long[] times = {0, 0, 0, 1, 1000000000, 1000000000, 1000000000, 8};
        for (int k = 0; k < delays.length; k++) {
            Case c = of("reg a;", "initial a <= " + delays[k] + "1;");
            c.run(2, 0).count(8, times[k] == 0 ? 1 : 0).count(9, times[k] == 0 ? 0 : 1).count(7, 0).count(11, 1).is(0, "x");
            c.run(1, 2).time(times[k]).is(0, "1").count(8, 0).count(9, 0).count(5, 3);
        }
    }

    /** "A = # E R: R is worked out, it waits as with # E, and the assignment is done." */
    private static void heldDelays() {
        String[] delays = {"#0", "#1'bz", "#1", "#1000000001"};
        long[] times = {0, 0, 1, 1000000000};
        for (int k = 0; k < delays.length; k++) {
            Case c = of("reg a, b;", "initial begin b = 0; a = " + delays[k] + " b; end initial b = 1;");
            c.run(3, 0).count(7, 0).count(9, 0).is(0, "x");
            c.run(1, 0).count(7, times[k] == 0 ? 1 : 0).count(9, times[k] == 0 ? 0 : 1).count(6, 1).run(99,
                    2).time(times[k]).is(0, "0").is(1, "1");
        }
        of("reg [3:0] a, b;", "initial begin a = #1 4'b1x0z; b = @(a) a; end initial begin #2 a = 0; end").run(99, 2).is(0,
                "0000").is(1, "1x0z");
        of("reg [3:0] a, b;", "initial {a, b} = #1 8'bxz01_10zx; initial #1 a = 0;").run(99, 2).is(0, "0000").is(1, "10zx");
        // What is assigned is as wide as the LEFT is, and cut then.
        of("reg [3:0] a; reg [2:0] b;", "initial begin b = 7; a = #1 b + 3'd1; end").run(99, 2).is(0, "1000");
        of("reg a; reg [2:0] b;", "initial begin b = 6; a = #1 b; end").run(99, 2).is(0, "0");
    }

    /** "all of INACTIVE go there, in order; if that's empty, too, all of LATER; if that's empty, too: TIME .." */
    private static void order() {
        Case c = of("reg a, b, d;", "initial begin #1 $write(\"6\"); end initial begin b <= 1; $write(\"1\"); end "
                + "initial begin #0 $write(\"3\"); #0 $write(\"4\"); end initial $write(\"2\"); always @(b) $write(\"5\");");
        c.run(99, 2).logs("123456");
        // What comes to INACTIVE while ACTIVE is done waits for the rest of it.
        of("reg a;", "initial #0 begin $write(\"1\"); #0 $write(\"3\"); end initial #0 $write(\"2\");").run(99, 2).logs("123");
        // Nothing goes from LATER before INACTIVE is empty again.
        of("reg a;", "initial begin a <= 1; #0 ; #0 ; #0 $write(\"%b\", a); #1 $write(\"%b\", a); end").run(99, 2).logs("x1");
        // All of LATER go to ACTIVE at once, and what these bring comes behind them.
        of("reg a, b;", "initial begin a <= 1; b <= 1; end always @(a) $write(\"a%b\", b); always @(b) $write(\"b\");")
                .run(99, 2).logs("a1b");
        // Nothing left: the end, and the TIME stays.
        of("reg a;", "initial #5 ; initial #3 @(a) ;").run(99, 2).time(5).count(10, 1).count(11, 1);
    }

    /** "all with it go to their REGION, in the order in which they came there." */
    private static void sameTime() {
        of("reg a;", "initial #5 $write(\"1\"); initial begin #2 ; #3 $write(\"4\"); end initial #5 $write(\"2\"); "
                + "initial begin #4 ; #1 $write(\"5\"); end initial #5 $write(\"3\");").run(99, 2).logs("12345");
        Case c = of("reg a, b, d;", "initial begin a <= #5 1; b <= #5 1; #5 $write(\"%b%b\", a, b); end initial #5 d <= 0; "
                + "always @(a) $write(\"a\"); always @(b) $write(\"b\"); always @(d) $write(\"d\");");
        c.run(13, 0).time(0).count(9, 4).run(1, 0).time(5).count(9, 0).count(6, 1).count(8, 2);
        c.run(99, 2).logs("xxabd");
        StringBuilder many = new StringBuilder();
        StringBuilder want = new StringBuilder();
        for (int k = 0; k < 40; k++) {
            int time = 1 + k * 7 % 5;
            many.append("initial #").append(time).append(" $write(\"").append((char) ('A' + k)).append("\"); ");
        }
        for (int time = 1; time <= 5; time++) {
            for (int k = 0; k < 40; k++) {
                want.append(1 + k * 7 % 5 == time ? "" + (char) ('A' + k) : "");
            }
        }
        of("", many.toString().replace("\\", "\\\\")).run(999, 2).logs(want.toString());
    }

    /** "posedge: the bit (number 0 without an index) was 0 and isn't, or is 1 and wasn't", and indices. */
    private static void awaited() {
        Case c = of("reg [5:2] a; reg n2, n5, n1, n6, any, low;", "initial @(posedge a[2]) n2 = 1; initial @(negedge a[5]) n5 = 1; "
                + "initial @(a[1]) n1 = 1; initial @(posedge a[6]) n6 = 1; initial @(a) any = 1; initial @(posedge a) low = 1;");
        c.theatre.set(0, 0, 8, 0);
        c.run(99, 2).count(10, 6);
        c.theatre.set(0, 0, 8, 2);
        c.run(99, 2).count(10, 5).is(5, "1");
        c.theatre.set(0, 0, 9, 2);
        c.run(99, 2).count(10, 3).is(1, "1").is(6, "1").is(2, "x");
        c.theatre.set(0, 0, 9, 8);
        c.run(99, 2).count(10, 2).is(2, "1");
        c.theatre.set(0, 0, 0, 0);
        c.theatre.set(0, 0, 15, 15);
        c.run(99, 2).count(10, 2).is(3, "x").is(4, "x");
        // A change of all but that bit does not fit.
        Case d = of("reg [63:0] a; reg b;", "initial a = 0; initial @(a[63]) b = 1;");
        d.run(99, 2);
        d.theatre.set(0, 0, Long.MAX_VALUE, 0);
        d.run(99, 2).is(1, "x");
        d.theatre.set(0, 0, Long.MIN_VALUE, 0);
        d.run(99, 2).is(1, "1");
        // What fits one NAME does not fit by another one's change.
        Case f = of("reg a, b; reg [3:0] d;",
                "initial begin a = 1; b = 1; d = 0; end initial #1 @(posedge a or negedge b or d[2]) ;");
        f.run(99, 2).count(10, 1);
        f.theatre.set(0, 0, 0, 0);
        f.count(10, 1);
        f.theatre.set(1, 0, 1, 1);
        f.count(10, 0).run(99, 2).count(11, 2);
        Case g = of("reg a, b; reg [3:0] d;",
                "initial begin a = 0; b = 0; d = 0; end initial #1 @(negedge a or posedge b or d[2]) ;");
        g.run(99, 2);
        g.theatre.set(0, 0, 1, 0);
        g.theatre.set(2, 0, 11, 0);
        g.count(10, 1);
        g.theatre.set(2, 0, 15, 0);
        g.count(10, 0);
        // A bit that is not there never changes, whatever the others do.
        Case h = of("reg [63:0] a;", "initial a = 0; initial @(a[64] or posedge a[-1] or negedge a[2147483647]) ;");
        h.run(99, 2);
        h.theatre.set(0, 0, -1, 0);
        h.theatre.set(0, 0, 0, 0);
        h.theatre.set(0, 0, -1, -1);
        h.count(10, 1).count(6, 0);
        // One process that waits for two things at once goes on once.
        Case e = of("reg a; integer n;", "initial n = 0; always @(a or posedge a or a[0]) n = n + 1;");
        e.run(99, 2);
        e.theatre.set(0, 0, 1, 0);
        e.count(6, 1).run(99, 2).due("n", e.theatre.value(1, 0, 0), 1);
    }

    /** "@*: for any change of a NAME that's read in its STATEMENT (all NAMES in EXPRS; of LEFTS just indices)." */
    private static void starred() {
        String[] statements = {"o = 0;", "o = a;", "a = o;", "if (a) ;", "o[a] = 1;", "{o[0], o[a]} = 1;", "a[0] = 1;",
                "a[1:0] = 1;",
            "case (a) 0: ; endcase", "case (0) 1, a: ; endcase", "for (a = 0; 0; a = 1) ;", "for (o = a; 0; o = 1) ;",
            "for (o = 0; a > 9; o = 1) ;", "for (o = 0; 0; o = a) ;", "while (a > 9) ;", "repeat (a) ;", "wait (a) ;", "#a ;",
            "o = #a 1;", "o <= #a 1;", "o <= a;", "o[a] <= 1;", "$write(\"%c\", a);", "$write(\"a\");", "@(a) ;", "o = @(a) 1;",
            "begin begin ; if (0) o = -a; end end", "if (0) ; else o = {2{a}};", "o = m[a];", "m[a] = 1;", "o = a[0];",
                    "o = a[1:0];",
            "@* o = a;", "o = $signed(a) + $time;", "o = 1 ? 2 : a;", "forever #1 o = a;"};
        boolean[] wakes = {false, true, false, true, true, true, false, false, true, true, false, true, true, true, true, true,
                true,
            true, true, true, true, true, true, false, false, false, true, true, true, true, true, true, true, true, true, true};
        for (int k = 0; k < statements.length; k++) {
            Case c = of("reg [1:0] a; reg [3:0] o; reg m[0:3];", "initial @* " + statements[k]);
            c.run(99, 2).count(10, 1).count(5, 2);
            c.theatre.set(0, 0, 1, 0);
            c.count(10, wakes[k] ? 0 : 1).count(6, wakes[k] ? 1 : 0);
        }
        // Not what is read behind its STATEMENT, or before it.
        Case b = of("reg a, d, e; reg [1:0] o;", "initial begin o = d; @* o = a; o = e; end");
        b.run(99, 2).count(10, 1);
        b.theatre.set(1, 0, 1, 0);
        b.theatre.set(2, 0, 1, 0);
        b.theatre.set(3, 0, 1, 0);
        b.count(10, 1).count(6, 0);
        b.theatre.set(0, 0, 1, 0);
        b.count(10, 0);
        // Of a MEMORY any word.
        Case c = of("reg m[0:3]; reg o;", "initial @* o = m[0];");
        c.run(99, 2);
        c.theatre.set(0, 3, 1, 0);
        c.count(6, 1).run(99, 2).count(11, 1);
    }

    /** "wait: if E isn't TRUE, it waits for any change of a NAME in E, and looks again (costing nothing)." */
    private static void waits() {
        String[] truths = {"1", "2", "2'b1x", "2'bz1", "64'h8000000000000000", "-1"};
        for (String one : truths) {
            of("reg a;", "initial wait (" + one + ") a = 1;").run(3, 2).is(0, "1").count(5, 3);
        }
        String[] others = {"0", "1'bx", "1'bz", "2'bx0", "64'bz"};
        for (String one : others) {
            of("reg a;", "initial wait (" + one + ") a = 1;").run(99, 2).is(0, "x").count(5, 2).count(10, 1);
        }
        Case other = of("reg a, b, d, e;", "initial begin d = b; wait (a) d = b; d = e; end");
        other.run(99, 2).count(10, 1);
        other.theatre.set(1, 0, 1, 0);
        other.theatre.set(2, 0, 1, 0);
        other.theatre.set(3, 0, 1, 0);
        other.count(10, 1).count(6, 0);
        Case c = of("reg [3:0] a; reg b, d;", "initial wait (a > 2 && b) d = 1;");
        c.run(99, 2).count(5, 2).count(10, 1);
        int cost = 2;
        for (int k = 0; k < 9; k++) {
            c.theatre.set(0, 0, k, 0);
            cost++;
            c.count(10, 0).count(6, 1).run(1, 2).count(10, 1).count(5, cost);
        }
        c.theatre.set(2, 0, 0, 0);
        c.count(6, 0);
        c.theatre.set(1, 0, 1, 0);
        c.run(1, 0).run(1, 2).is(2, "1").count(5, cost + 2).count(11, 1);
    }

    /** What a process waited for before does not wake it any more. */
    private static void notBefore() {
        Case c = of("reg a, b, d; reg [1:0] o;", "initial begin @(a) ; wait (b) ; @* o = d; @(negedge d) ; o = 3; end");
        c.run(99, 2).count(10, 1);
        c.theatre.set(0, 0, 1, 0);
        c.run(99, 2).count(10, 1).count(6, 0);
        c.theatre.set(0, 0, 0, 0);
        c.count(10, 1).count(6, 0);
        c.theatre.set(1, 0, 1, 0);
        c.run(99, 2).count(10, 1);
        c.theatre.set(0, 0, 1, 0);
        c.theatre.set(1, 0, 0, 0);
        c.count(10, 1).count(6, 0);
        c.theatre.set(2, 0, 1, 0);
        c.run(99, 2).is(3, "01").count(10, 1);
        c.theatre.set(0, 0, 0, 0);
        c.theatre.set(1, 0, 1, 0);
        c.count(6, 0);
        c.theatre.set(2, 0, 0, 0);
        c.run(99, 2).is(3, "11").count(11, 1);
    }

    /** "Setting (..): bits that aren't there, or an index with x or z: nothing." */
    private static void settings() {
        String[] lefts = {"a[2]", "a[5]", "a[1]", "a[6]", "a[-1]", "a[2'b1x]", "a[32'hffffffff]", "a[64'h100000002]",
                "a[64'h8000000000000002]",
            "a[5:2]", "a[3:3]", "{a[9], a[2]}", "{a[2], a[9]}", "{a[3], a[1'bz], a[2]}"};
        String[] wants = {"0001", "1000", "0000", "0000", "0000", "0000", "0000", "0000", "0000", "0111", "0010", "0001",
                "0001", "0011"};
        for (int k = 0; k < lefts.length; k++) {
            of("reg [5:2] a;", "initial begin a = 0; " + lefts[k] + " = 7; end").run(99, 2).is(0, wants[k]);
            of("reg [5:2] a;", "initial begin a = 0; " + lefts[k] + " <= 7; end").run(99, 2).is(0, wants[k]);
            of("reg [5:2] a;", "initial begin a = 0; " + lefts[k] + " = #1 7; end").run(99, 2).is(0, wants[k]);
        }
        String[] words = {"m[-1]", "m[2]", "m[-2]", "m[3]", "m[1'bx]", "m[64'hffffffffffffffff]"};
        int[] set = {0, 3, -1, -1, -1, -1};
        for (int k = 0; k < words.length; k++) {
            Case c = of("reg [3:0] m[2:-1];", "initial " + words[k] + " = 5;").run(99, 2);
            for (int w = 0; w < 4; w++) {
                c.is(0, w, w == set[k] ? "0101" : "xxxx");
            }
        }
        // "each one's index being worked out just before it's set"
        of("reg [1:0] i; reg [3:0] a;", "initial begin a = 0; i = 0; {i, a[i], i, a[i]} = 6'b01_1_10_1; end")
                .run(99, 2).is(1, "0110").is(0, "10");
        of("reg [1:0] i; reg [3:0] a;", "initial begin a = 0; i = 3; {a[i], i} = 3'b1_00; end").run(99, 2).is(1, "1000").is(0,
                "00");
        // A value that is the same as before is no CHANGE.
        Case c = of("reg a; reg [1:0] b;", "initial begin a = 1'bx; b[1] = 1'bx; b[7] = 0; end always @(a or b) $write(\"c\");");
        c.run(99, 2).logs("").count(10, 1);
    }

    /** "A <= R: R and A's indices are worked out; an EVENT for each NAME in A, from the left." */
    private static void laterSettings() {
        of("reg [1:0] i; reg [3:0] a;", "initial begin a = 0; i = 1; {i, a[i]} <= 3'b111; i = 2; end").run(99, 2).is(1,
                "0010").is(0, "11");
        Case c = of("reg a, b; reg [1:0] d;", "initial {a, d[5], b, d[1:0]} <= 5'b1_1_0_10;");
        c.run(2, 0).count(8, 4).run(1, 0).is(0, "1").count(6, 3).run(1, 0).is(2, "xx").run(1, 0).is(1, "0").run(1, 2).is(2, "10");
        c.count(5, 6);
        // Its value is kept as it was, and so is the TIME of each.
        of("reg a, b;", "initial begin b = 1; a <= #2 b; b = 0; a <= #1 b; b = 1'bx; end").run(99, 2).is(0, "1").time(2);
        of("reg a;", "initial begin a <= #3 1; a <= #3 0; end").run(99, 2).is(0, "0").time(3);
    }

    /** "If more than 4000 EVENTS that set something would wait, the run ends (with 3)." */
    private static void tooMany() {
        Case c = of("reg a;", "initial begin repeat (4000) a <= #7 1; a = 0; end");
        c.run(8004, 0).count(9, 4000).is(0, "0").run(1, 0).time(7).run(3999, 2).count(5, 12004);
        Case d = of("reg a; integer n;", "initial begin n = 0; repeat (4001) begin a <= #7 1; n = n + 1; end end");
        d.run(20000, 3).count(9, 4000).due("n", d.theatre.value(1, 0, 0), 4000);
        d.time(0).count(5, 16007).count(11, 0);
        String before = d.circuit();
        d.run(1, 3).run(20000, 3);
        d.dueText("doing nothing", d.circuit(), before);
        d.bad("run(0)", () -> d.theatre.run(0));
        d.theatre.set(1, 0, 5, 0);
        d.due("n", d.theatre.value(1, 0, 0), 5);
        d.run(1, 3).due("build()", d.build("module t; reg a; initial a = 1; endmodule"), 1);
        d.run(5, 2).is(0, "1");
        // LATER and FUTURE together; those that are done wait no more.
        of("reg a;", "initial begin repeat (2000) a <= 1; repeat (2000) a <= #1 1; end").run(20000, 2).time(1);
        of("reg a;", "initial begin repeat (2000) a <= 1; repeat (2001) a <= #1 1; end").run(20000, 3).count(8, 2000).count(9,
                2000);
        of("reg a;", "initial begin repeat (4000) a <= 1; #0 a <= 1; end").run(20000, 3).count(8, 4000);
        of("reg a;", "initial begin repeat (4000) a <= 1; #1 a <= 1; end").run(20000, 2).time(1);
        // Those in ACTIVE wait, too, but for the one that is being done.
        Case e = of("reg a, b;", "initial begin a = 0; repeat (3999) b <= 1; a <= 1; end always @(a) begin b <= 0; b <= 1'bz; end");
        e.run(20000, 2).is(1, "z");
        Case f = of("reg a, b, d;", "initial begin a <= 1; repeat (3998) b <= 1; end always @(a) begin b <= 0; b <= 1'bz; end");
        f.run(20000, 2).is(1, "z");
        // EVENTS that set nothing wait, too.
        of("reg a;", "initial begin repeat (4000) a[5] <= 1; a <= 1; end").run(20000, 3);
    }

    /** "first, the processes that wait for it, in the order in which they began to wait, .. then all ASSIGNS .." */
    private static void changes() {
        Case c = of("reg a; wire w, v;", "assign w = a; assign v = ~a; initial begin #1 @(a) $write(\"3\"); end "
                + "initial @(a) $write(\"1\"); initial @(negedge a) $write(\"n\"); initial @(a) $write(\"2\"); initial @(w) $write(\"4\"); "
                + "initial @(v) $write(\"5\"); initial #2 a = 1;");
        c.run(99, 2).logs("12345").count(10, 1);
        // ASSIGNS that are in ACTIVE already do not come twice.
        Case d = of("reg a, b; wire w;", "assign w = a ^ b;");
        d.run(99, 2);
        d.theatre.set(0, 0, 1, 0);
        d.theatre.set(1, 0, 1, 0);
        d.theatre.set(0, 0, 0, 0);
        d.count(6, 1).run(1, 2).is(2, "1").count(5, 2);
        // At first they are there already.
        Case e = of("reg a; wire w;", "initial a = 1; assign w = a;");
        e.run(2, 0).count(6, 1).run(1, 2).is(1, "1").count(5, 3);
        Case f = of("reg a; wire w;", "assign w = a; initial a = 1;");
        f.run(3, 0).count(6, 1).is(1, "x").run(1, 2).is(1, "1");
        // One that reads what it drives comes again behind its own EVENT.
        Case g = of("wire [3:0] w; reg a;", "assign w[0] = 1; assign w[3:1] = w;");
        g.run(99, 2).is(0, "1111").count(5, 5);
        // By its index alone.
        Case h = of("reg [1:0] i; reg [3:0] a; wire w;", "assign w = a[i];");
        h.run(99, 2);
        h.theatre.set(0, 0, 1, 0);
        h.count(6, 1);
    }

    /** "case: the first whose EXPR's bits are all the same (casez: or one is z) .. else the default, wherever it stands." */
    private static void cases() {
        String bits = "01xz";
        for (char one : bits.toCharArray()) {
            for (char other : bits.toCharArray()) {
                for (String word : new String[] {"case", "casez"}) {
                    boolean fits = one == other || word.equals("casez") && (one == 'z' || other == 'z');
                    of("", "initial " + word + " (2'b1" + one + ") 2'b1" + other
                            + ": $write(\"1\"); default: $write(\"0\"); endcase")
                            .run(9, 2).logs(fits ? "1" : "0");
                    of("", "initial " + word + " (2'b" + one + "1) default: $write(\"0\"); 2'b00, 2'b" + other
                            + "1: $write(\"1\"); endcase")
                            .run(9, 2).logs(fits ? "1" : "0");
                }
            }
        }
        // All get the greatest L, those of later choices, too.
        of("", "initial case (8'd16) 8'd1: ; 8'd2, 4'd15 + 4'd1: $write(\"y\"); default: $write(\"n\"); endcase").run(9,
                2).logs("y");
        of("", "initial case (8'd16) 1'b1: ; default: ; 4'd8 << 1: $write(\"y\"); endcase").run(9, 2).logs("y");
        of("", "initial case (4'sb1000) 4'sd1: ; 4'sd2: ; 8'sb11111000: $write(\"y\"); endcase").run(9, 2).logs("y");
        of("", "initial case (4'sb1000) 4'sd1: ; 4'sd2: ; 8'b00001000: $write(\"y\"); 8'sb11111000: ; endcase").run(9, 2).logs("y");
        of("", "initial case (4'sb1000) 8'sb11111000: $write(\"n\"); 4'sd2: ; 4'sb1000: $write(\"y\"); 2'd1: ; endcase").run(9,
                2).logs("y");
        of("", "initial case (1) 0: $write(\"0\"); endcase").run(9, 2).logs("").count(5, 2);
        of("", "initial case (1) 1: $write(\"1\"); 1: $write(\"2\"); endcase").run(9, 2).logs("1");
        of("", "initial case (1) 0, 1, 2: ; default: $write(\"d\"); endcase").run(9, 2).logs("").count(5, 3);
        of("reg a;", "initial begin a = 1; case (1'b1) a: $write(\"a\"); default: ; endcase end").run(9, 2).logs("a");
        of("", "initial case (64'hffffffffffffffff) 32'shffffffff: $write(\"s\"); 64'hffffffffffffffff: $write(\"u\"); endcase").run(9, 2).logs("u");
        of("", "initial case (64'shffffffffffffffff) 32'shffffffff: $write(\"s\"); 64'hffffffffffffffff: $write(\"u\"); endcase").run(9, 2).logs("u");
        of("", "initial case (64'shffffffffffffffff) 32'shffffffff: $write(\"s\"); default: $write(\"u\"); endcase").run(9,
                2).logs("s");
    }

    /** "repeat: E (without sign; x or z: 0) times", for and while "as long as .. TRUE". */
    private static void loops() {
        String[] counts = {"0", "1", "1'bx", "3'b1z0", "3'd7", "-3'sd1", "3'sd7", "1'sb1", "{2'b10}"};
        int[] times = {0, 1, 0, 0, 7, 7, 7, 1, 2};
        for (int k = 0; k < counts.length; k++) {
            Case c = of("integer n;", "initial begin n = 0; repeat (" + counts[k] + ") n = n + 1; end");
            c.run(99, 2).due("n", c.theatre.value(0, 0, 0), times[k]);
            c.count(5, 4 + 2 * times[k]);
        }
        String[] great = {"-1", "64'hffffffffffffffff", "64'h8000000000000000", "2147483647"};
        for (String one : great) {
            Case c = of("integer n;", "initial begin n = 0; repeat (" + one + ") n = n + 1; end");
            c.run(20000, 0).due("n", c.theatre.value(0, 0, 0), 9998);
        }
        Case c = of("integer n;", "initial begin n = 3; repeat (n) n = n + 2; end");
        c.run(99, 2).due("n", c.theatre.value(0, 0, 0), 9);
        String[] ends = {"0", "1'bx", "1'bz", "2'bx0"};
        for (String one : ends) {
            of("integer i;", "initial while (" + one + ") i = 1;").run(99, 2).count(5, 2).is(0, "x".repeat(32));
            Case d = of("integer i;", "initial for (i = 7; " + one + "; i = 8) i = 9;");
            d.run(99, 2).count(5, 2).due("i", d.theatre.value(0, 0, 0), 7);
        }
        Case d = of("integer i; reg [1:0] a;", "initial for (a = 0; a < 3; a = a + 1) i = a;");
        d.run(99, 2).count(5, 8).is(1, "11").due("i", d.theatre.value(0, 0, 0), 2);
        of("reg [1:0] a;", "initial for (a = 0; a < 4; a = a + 1) ;").run(20000, 0);
    }
}
