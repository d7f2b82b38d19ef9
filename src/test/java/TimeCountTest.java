/** Promises 12 and 13: TIME, and what is counted. */
public final class TimeCountTest {
    public static void main(String[] args) {
        Case c = Case.of("counts", "module t; reg a; wire b; assign b = a; initial #3 a = 1; "
                + "initial @(a) ; initial ; initial begin #0 a <= 0; end endmodule");
        counts(c, 0, 2, 1, 4, 0, 0, 5, 0, 0, 0, 0, 0);
        c.run(9, 0);
        counts(c, 0, 2, 1, 4, 0, 9, 0, 0, 0, 1, 1, 1);
        c.run(1, 0);
        counts(c, 0, 2, 1, 4, 0, 10, 0, 1, 0, 1, 1, 1);
        c.run(2, 0);
        counts(c, 0, 2, 1, 4, 0, 12, 0, 0, 1, 1, 1, 2);
        c.run(1, 0).time(0);
        counts(c, 0, 2, 1, 4, 0, 13, 2, 0, 0, 1, 0, 2);
        c.run(100, 2).time(3);
        counts(c, 0, 2, 1, 4, 0, 19, 0, 0, 0, 0, 0, 4);
        c.count(-1, -1).count(12, -1);
        c.feed("abc").count(0, 3).count(1, 2).time(3);

        Case d = Case.of("great delays", "module t; reg [63:0] x; initial begin #1000000000 ; "
                + "#64'hffffffffffffffff ; #(-1) ; #2000000000 ; #1'bx ; #0 ; x = $time; end endmodule");
        d.run(5, 0).time(1000000000).run(100, 2).time(4000000000L);
        d.due("$time", d.theatre.value(0, 0, 0), 4000000000L);
        Case.close();
    }

    private static void counts(Case c, int... want) {
        for (int k = 0; k < want.length; k++) {
            c.count(k, want[k]);
        }
    }
}
