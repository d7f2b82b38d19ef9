import java.util.NoSuchElementException;

/** What README.md says on the use of the class: its examples, the order of the calls, refused ones. */
public final class UseTest {
    private static final String COUNTER = "module top; reg clk; wire [3:0] n; counter #(.STEP(3)) c(.clk(clk), .n(n)); "
            + "initial begin clk = 0; repeat (6) #5 clk = ~clk; $display(\"%0d at %0t\", n, $time); end endmodule "
            + "module counter #(parameter STEP = 1) (input clk, output reg [3:0] n); "
            + "initial n = 0; always @(posedge clk) n <= n + STEP; endmodule";

    public static void main(String[] args) {
        example();
        anyLength();
        order();
        refused();
        Case.close();
    }

    private static void example() {
        Case c = new Case("README's example");
        SignalTheatre theatre = c.theatre;
        c.due("feed", theatre.feed(0x6d6f6475, 0x6c652074, 0x3b726567, 0x20613b69, 0x6e697469), 20);
        c.due("feed", theatre.feed(0x616c2061, 0x203d2031, 0x3b656e64, 0x6d6f6475, 0x6c652020), 40);
        c.due("end(2)", theatre.end(2), 38);
        c.due("build()", theatre.build(), 1);
        c.due("run(100)", theatre.run(100), 2);
        c.due("value(0, 0, 0)", theatre.value(0, 0, 0), 1);
    }

    private static void feed(SignalTheatre theatre, String text) {
        int[] five = new int[5];
        int pieces = (text.length() + 19) / 20;
        for (int k = 0; k < pieces * 20; k++) {
            int c = k < text.length() ? text.charAt(k) : 0;
            five[k / 4 % 5] = five[k / 4 % 5] << 8 | c;
            if (k % 20 == 19) {
                theatre.feed(five[0], five[1], five[2], five[3], five[4]);
            }
        }
        theatre.end(pieces * 20 - text.length());
    }

    private static void anyLength() {
        for (int spaces = 0; spaces < 25; spaces++) {
            Case c = new Case(spaces + " spaces behind");
            feed(c.theatre, COUNTER + " ".repeat(spaces));
            c.count(0, COUNTER.length() + spaces).due("build()", c.theatre.build(), 4);
            c.count(0, 0).run(200, 2).logs("9 at 30\n").time(30).is(1, "1001");
        }
    }

    /** A text is fed while another one's circuit is played, and takes its place when it is built. */
    private static void order() {
        Case c = new Case("the order of the calls");
        feed(c.theatre, COUNTER);
        c.theatre.build();
        c.run(20, 0);
        String before = c.circuit();
        feed(c.theatre, "module t; reg a; initial begin $write(\"a\"); #3 a = 1; end endmodule");
        c.dueText("while the next text is fed", c.circuit(), before);
        c.run(200, 2).logs("9 at 30\n");
        c.due("build()", c.theatre.build(), 1);
        c.time(0).logs("").count(5, 0).run(200, 2).time(3).logs("a").is(0, "1");
        // A wrong one leaves it alone, and a right one must be fed as a whole then.
        feed(c.theatre, "module t; endmodul");
        c.refused("build()", IllegalStateException.class, () -> c.theatre.build());
        c.due("fault(0)", c.theatre.fault(0), 1);
        c.due("fault(1)", c.theatre.fault(1), 18);
        c.count(0, 0).time(3).logs("a").is(0, "1");
        feed(c.theatre, "e");
        c.refused("build()", IllegalStateException.class, () -> c.theatre.build());
        c.due("fault(1)", c.theatre.fault(1), 0);
    }

    /** What the table of the methods tells as refused, each leaving all as it was. */
    private static void refused() {
        Case c = Case.of("refused", COUNTER);
        c.run(20, 0).feed("some more");
        Class<IllegalArgumentException> bad = IllegalArgumentException.class;
        Class<NoSuchElementException> notThere = NoSuchElementException.class;
        c.refusedUnchanged("end(10)", bad, () -> c.theatre.end(10));
        c.refusedUnchanged("fault(2)", bad, () -> c.theatre.fault(2));
        c.refusedUnchanged("run(20001)", bad, () -> c.theatre.run(20001));
        c.refusedUnchanged("value(9, 0, 2)", bad, () -> c.theatre.value(9, 0, 2));
        c.refusedUnchanged("value(9, 0, 1)", notThere, () -> c.theatre.value(9, 0, 1));
        c.refusedUnchanged("set of a NET", notThere, () -> c.theatre.set(1, 0, 1, 0));
        c.refusedUnchanged("told(9, 5)", bad, () -> c.theatre.told(9, 5));
        c.refusedUnchanged("told(9, 4)", notThere, () -> c.theatre.told(9, 4));
        c.refusedUnchanged("letter(0, 3)", notThere, () -> c.theatre.letter(0, 3));
        c.refusedUnchanged("log(0)", IndexOutOfBoundsException.class, () -> c.theatre.log(0));
        c.count(12, -1).count(0, 9).run(200, 2).logs("9 at 30\n");
    }
}
