import java.util.NoSuchElementException;

/** Edges of the calls of promises 1, 4, 5, 7 to 10, 12 and 13: what is there, what is not, what a refused call leaves. */
public final class CallEdgeTest {
    private static final String TEXT = "module t(input p, output reg q); reg [3:0] a; reg signed [63:0] m[5:3]; wire [1:0] w; integer i; "
            + "u x(.b(a[0])); initial begin a = 5; m[4] = 64'bx; $display(\"%d\", a); #1 a <= #2 6; a = 7; end "
            + "always @(a) q = a[1]; endmodule module u(input b); wand c; wor d; reg e; endmodule";

    public static void main(String[] args) {
        nothingThere();
        build();
        faults();
        values();
        sets();
        setChanges();
        told();
        letters();
        times();
        counts();
        Case.close();
    }

    private static final int[] FAR = {-1, Integer.MIN_VALUE, Integer.MAX_VALUE};

    /** Promise 1: "Nothing is there." Without a CIRCUIT, and with one without VARIABLES and NETS. */
    private static void nothingThere() {
        Case none = new Case("nothing");
        Case empty = Case.of("an empty CIRCUIT", "module t; initial ; endmodule");
        for (Case c : new Case[] {none, empty}) {
            for (int v : new int[] {0, 1, 399, 400, -1, Integer.MAX_VALUE, Integer.MIN_VALUE}) {
                notThere(c, v);
            }
            c.refusedUnchanged("log(0)", IndexOutOfBoundsException.class, () -> c.theatre.log(0));
            c.time(0).count(0, 0).count(1, 0).count(2, 0).count(4, 0).count(5, 0);
            c.due("fault(0)", c.theatre.fault(0), 0);
            c.due("fault(1)", c.theatre.fault(1), -1);
        }
        none.count(3, 0).count(6, 0);
        empty.count(3, 1).count(6, 1);
        // A FAULT brings nothing.
        none.faulty(1, 0, "x").count(1, 0).count(6, 0).time(0);
        notThere(none, 0);
    }

    private static void notThere(Case c, int v) {
        Class<NoSuchElementException> by = NoSuchElementException.class;
        c.refusedUnchanged("value(" + v + ")", by, () -> c.theatre.value(v, 0, 0));
        c.refusedUnchanged("value(" + v + ", 1)", by, () -> c.theatre.value(v, 0, 1));
        c.refusedUnchanged("set(" + v + ")", by, () -> c.theatre.set(v, 0, 1, 0));
        c.refusedUnchanged("letter(" + v + ")", by, () -> c.theatre.letter(v, 0));
        for (int what = 0; what < 5; what++) {
            int kind = what;
            c.refusedUnchanged("told(" + v + ", " + what + ")", by, () -> c.theatre.told(v, kind));
        }
        // Bad is looked for first.
        c.refusedUnchanged("told(" + v + ", 5)", IllegalArgumentException.class, () -> c.theatre.told(v, 5));
        c.refusedUnchanged("told(" + v + ", -1)", IllegalArgumentException.class, () -> c.theatre.told(v, -1));
        c.refusedUnchanged("value(" + v + ", part 2)", IllegalArgumentException.class, () -> c.theatre.value(v, 0, 2));
        c.refusedUnchanged("value(" + v + ", part -1)", IllegalArgumentException.class, () -> c.theatre.value(v, 0, -1));
    }

    /** Promise 4, in the midst of a run: a FAULT of each kind leaves all, a right TEXT begins anew. */
    private static void build() {
        String[] wrong = {"", "module", "module t; \u00a7x", "module t; initial a = 1; endmodule",
                "module t; wire w; initial w = 1; endmodule",
            "module t; reg [64:0] a; endmodule", "module t; u x(); endmodule module u; u y(); endmodule",
            "module t; endmodule module u; endmodule"};
        for (int steps = 1; steps < 22; steps++) {
            Case c = Case.of("in the midst", TEXT);
            c.theatre.run(steps);
            String before = c.circuit();
            for (String text : wrong) {
                c.feed(text);
                c.refused("build()", IllegalStateException.class, () -> c.theatre.build());
                c.count(0, 0).dueText("all behind a FAULT", c.circuit(), before);
            }
            // It goes on as if nothing had been.
            c.theatre.run(100);
            Case other = Case.of("without them", TEXT);
            other.theatre.run(steps);
            other.theatre.run(100);
            c.dueText("the run behind it", c.circuit(), other.circuit());
            c.due("build()", c.build(TEXT), 10);
            c.dueText("anew", c.circuit(), Case.of("anew", TEXT).circuit());
        }
    }

    /** Promise 5: "Of the latest FAULT (builds without one leave it) ..; 0, -1 before. Another what: bad." */
    private static void faults() {
        Case c = new Case("fault");
        fault(c, 0, -1);
        c.build("module t; endmodule");
        fault(c, 0, -1);
        c.faulty(1, 0, "");
        fault(c, 1, 0);
        c.build("module t; endmodule");
        fault(c, 1, 0);
        c.faulty(4, "module t; reg [\u00a764:0] a; endmodule");
        c.build("module t; endmodule");
        c.run(1, 2);
        fault(c, 4, 15);
        c.faulty(6, 0, "module t; endmodule module u; endmodule");
        fault(c, 6, 0);
    }

    private static void fault(Case c, int number, int place) {
        c.due("fault(0)", c.theatre.fault(0), number);
        c.due("fault(1)", c.theatre.fault(1), place);
        for (int what : new int[] {2, -1, 3, Integer.MAX_VALUE, Integer.MIN_VALUE}) {
            c.refusedUnchanged("fault(" + what + ")", IllegalArgumentException.class, () -> c.theatre.fault(what));
        }
    }

    /** Promise 7: "word w of it (0, but for a MEMORY; from the RANGE's lesser end on)." */
    private static void values() {
        Case c = Case.of("value", TEXT);
        c.run(9, 0);
        int[] words = {1, 1, 1, 3, 1, 1, 1, 1, 1, 1};
        c.count(1, words.length);
        for (int v = 0; v < words.length; v++) {
            for (int w = 0; w < words[v]; w++) {
                c.theatre.value(v, w, 0);
                c.theatre.value(v, w, 1);
            }
            for (int w : new int[] {words[v], words[v] + 1, -1, Integer.MIN_VALUE, Integer.MAX_VALUE}) {
                int signal = v;
                c.refusedUnchanged("value(" + v + ", " + w + ")", NoSuchElementException.class, () -> c.theatre.value(signal, w,
                        0));
                c.refusedUnchanged("bad before", IllegalArgumentException.class, () -> c.theatre.value(signal, w, 2));
            }
        }
        notThere(c, 10);
        for (int v : FAR) {
            notThere(c, v);
        }
        for (int part : new int[] {-1, 2, Integer.MIN_VALUE, Integer.MAX_VALUE}) {
            c.refusedUnchanged("part " + part, IllegalArgumentException.class, () -> c.theatre.value(2, 0, part));
        }
        Case d = Case.of("bits", "module t; reg [63:0] a; reg b; wire c; endmodule");
        String[] bits = {"0", "1", "x", "z"};
        for (int k = 0; k < 4; k++) {
            d.theatre.set(1, 0, k == 1 || k == 2 ? 1 : 0, k / 2);
            d.is(1, bits[k]).due("1 or x", d.theatre.value(1, 0, 0), k == 1 || k == 2 ? 1 : 0);
            d.due("x or z", d.theatre.value(1, 0, 1), k / 2);
        }
        d.due("all 64", d.theatre.value(0, 0, 0), -1);
        d.due("all 64", d.theatre.value(0, 0, 1), -1);
        d.due("z", d.theatre.value(2, 0, 0), 0);
        d.due("z", d.theatre.value(2, 0, 1), 1);
    }

    /** Promise 8: "(those beyond its WIDTH do not count), as by a STATEMENT (of a NET: not there), also behind the end." */
    private static void sets() {
        Case c = Case.of("set", TEXT);
        c.run(9, 0);
        Class<NoSuchElementException> by = NoSuchElementException.class;
        for (int net : new int[] {0, 4, 6, 7, 8}) {
            c.refusedUnchanged("set NET " + net, by, () -> c.theatre.set(net, 0, 1, 0));
            c.refusedUnchanged("set NET " + net, by, () -> c.theatre.set(net, 1, 1, 0));
        }
        for (int v : new int[] {1, 2, 5, 9}) {
            for (int w : new int[] {1, -1, Integer.MIN_VALUE, Integer.MAX_VALUE}) {
                c.refusedUnchanged("set(" + v + ", " + w + ")", by, () -> c.theatre.set(v, w, 1, 0));
            }
        }
        for (int w : new int[] {3, -1, Integer.MIN_VALUE, Integer.MAX_VALUE}) {
            c.refusedUnchanged("set a word " + w, by, () -> c.theatre.set(3, w, 1, 0));
        }
        c.theatre.set(3, 0, 1, 0);
        c.theatre.set(3, 2, -1, 0);
        c.is(3, 0, "0".repeat(63) + "1").is(3, 2, "1".repeat(64)).is(3, 1, "x".repeat(64));
        int[] widths = {1, 4, 32, 63, 64};
        for (int width : widths) {
            Case d = Case.of("beyond its WIDTH", "module t; reg [" + (width - 1) + ":0] a; endmodule");
            d.theatre.set(0, 0, -1, 0);
            d.is(0, "1".repeat(width)).due("no more", d.theatre.value(0, 0, 0), -1L >>> 64 - width);
            d.theatre.set(0, 0, 0, -1);
            d.is(0, "z".repeat(width)).due("no more", d.theatre.value(0, 0, 1), -1L >>> 64 - width);
            d.theatre.set(0, 0, -1, -1);
            d.is(0, "x".repeat(width));
            d.theatre.set(0, 0, 1L << width - 1, 0);
            d.is(0, "1" + "0".repeat(width - 1));
            if (width < 64) {
                d.theatre.set(0, 0, 1L << width, -1L << width);
                d.is(0, "0".repeat(width));
            }
        }
        Case e = Case.of("behind the end", "module t; reg a, b; wire w; assign w = a; initial $finish; endmodule").run(9, 1);
        e.theatre.set(0, 0, 1, 0);
        e.is(0, "1").count(6, 1).run(9, 1).is(2, "x").count(6, 1);
    }

    /** "CHANGES as said." */
    private static void setChanges() {
        Case c = Case.of("CHANGES", "module t; reg [1:0] a; reg m[0:1]; wire w, v; assign w = a[0]; assign v = m[0]; "
                + "initial @(posedge a) ; initial @(a) ; initial wait (m[1]) ; endmodule").run(99, 2).count(10, 3).count(6, 0);
        c.theatre.set(0, 0, -1, -1);
        c.count(10, 3).count(6, 0);
        c.theatre.set(0, 0, 0, 0xc);
        c.count(10, 2).count(6, 2);
        c.theatre.set(0, 0, 1, 0);
        c.count(10, 1).count(6, 3);
        c.theatre.set(1, 0, 0, 0);
        c.count(10, 0).count(6, 5);
        c.run(99, 2).is(2, "1").is(3, "0").count(10, 1).count(11, 2);
        c.theatre.set(1, 1, 1, 0);
        c.run(99, 2).count(10, 0).count(11, 3);
        // In the midst of a process, too, behind what is in ACTIVE already.
        Case d = Case.of("midst", "module t; reg a; initial begin $write(\"1\"); $write(\"2\"); end initial $write(\"3\"); "
                + "initial @(a) $write(\"4\"); initial #1 $write(\"5\"); endmodule");
        d.run(3, 0).logs("1");
        d.theatre.set(0, 0, 1, 0);
        d.run(99, 2).logs("1235").count(10, 1);
        d.theatre.set(0, 0, 0, 0);
        d.run(99, 2).logs("12354");
    }

    /** Promise 9. */
    private static void told() {
        Case c = Case.of("told", TEXT);
        int[][] want = {{1, 0, 0, 1, 1}, {1, 0, 0, 0, 1}, {4, 0, 0, 0, 1}, {64, 1, 3, 0, 1}, {2, 0, 0, 1, 1}, {32, 1, 0, 0, 1},
                {1, 0, 0, 1, 3},
            {1, 0, 0, 2, 3}, {1, 0, 0, 3, 3}, {1, 0, 0, 0, 3}};
        for (int v = 0; v < want.length; v++) {
            for (int what = 0; what < 5; what++) {
                c.due("told(" + v + ", " + what + ")", c.theatre.told(v, what), want[v][what]);
            }
            for (int what : new int[] {5, -1, Integer.MAX_VALUE, Integer.MIN_VALUE}) {
                int signal = v;
                c.refusedUnchanged("told(" + v + ", " + what + ")", IllegalArgumentException.class, () -> c.theatre.told(signal,
                        what));
            }
        }
        Case d = Case.of("WIDTHS", "module t; reg [63:0] a; wire [7:7] b; wor signed [0:-63] c; reg d[0:0], e[4095:0]; endmodule");
        int[] widths = {64, 1, 64, 1, 1};
        int[] words = {0, 0, 0, 1, 4096};
        for (int v = 0; v < 5; v++) {
            d.due("WIDTH", d.theatre.told(v, 0), widths[v]);
            d.due("words", d.theatre.told(v, 2), words[v]);
        }
    }

    /** Promise 10: "those of the instances around it (not the TOP's) with a point behind each, then its own." */
    private static void letters() {
        String name = "n" + "2".repeat(63);
        Case c = Case.of("letter", "module t; reg a; u " + name + "(); endmodule module u; v i(); reg " + name + "; endmodule "
                + "module v; reg b; endmodule");
        String[] names = {"a", name + ".i.b", name + "." + name};
        c.count(1, 3);
        for (int v = 0; v < 3; v++) {
            int signal = v;
            int length = names[v].length();
            c.dueText("NAME", c.name(v), names[v]);
            c.due("bytes", c.theatre.told(v, 4), length);
            for (int i : new int[] {length, length + 1, -1, Integer.MAX_VALUE, Integer.MIN_VALUE}) {
                c.refusedUnchanged("letter(" + v + ", " + i + ")", NoSuchElementException.class, () -> c.theatre.letter(signal, i));
            }
        }
        for (int v : new int[] {3, -1, Integer.MAX_VALUE, Integer.MIN_VALUE}) {
            c.refusedUnchanged("letter(" + v + ", 0)", NoSuchElementException.class, () -> c.theatre.letter(v, 0));
        }
        // What is fed for another TEXT does not touch them.
        c.feed("x".repeat(400));
        c.dueText("NAME", c.name(1), names[1]);
        c.theatre.end(400);
        c.faulty(1, 0, "y".repeat(60));
        c.dueText("NAME", c.name(1), names[1]);
    }

    /** Promise 12. */
    private static void times() {
        Case c = new Case("time").time(0);
        c.build("module t; initial forever #1000000000 ; endmodule");
        c.time(0).run(2, 0).time(0).run(20000, 0);
        c.time(5000L * 1000000000L).faulty(1, 0, "").time(5000L * 1000000000L);
        c.build("module t; endmodule");
        c.time(0).run(1, 2).time(0);
    }

    /** Promise 13: "all but 0 are 0 without a CIRCUIT .. Else -1." */
    private static void counts() {
        Case c = new Case("count");
        for (int what = 0; what < 12; what++) {
            c.count(what, 0);
        }
        for (int what : new int[] {-1, 12, 13, Integer.MAX_VALUE, Integer.MIN_VALUE}) {
            c.count(what, -1);
        }
        c.feed("ab").count(0, 2).count(1, 0);
        c.theatre.end(2);
        c.build(TEXT);
        int[] first = {0, 10, 1, 2, 0, 0, 3, 0, 0, 0, 0, 0};
        for (int what = 0; what < 12; what++) {
            c.count(what, first[what]);
        }
        for (int what : new int[] {-1, 12, 13, Integer.MAX_VALUE, Integer.MIN_VALUE}) {
            c.count(what, -1);
        }
        c.run(8, 0);
        int[] then = {0, 10, 1, 2, 3, 8, 1, 0, 0, 1, 0, 0};
        for (int what = 0; what < 12; what++) {
            c.count(what, then[what]);
        }
        c.run(99, 2).count(10, 1).count(11, 1).count(9, 0).count(6, 0).count(4, 3).time(3);
    }
}
