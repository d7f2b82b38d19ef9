/** Promises 2 and 3: INPUT grows by twenty bytes, and its last bytes go. */
public final class FeedEndTest {
    public static void main(String[] args) {
        order();
        full();
        Case.close();
    }

    private static void order() {
        Case c = new Case("the highest byte first");
        c.due("feed", c.theatre.feed(0x6d6f6475, 0x6c652074, 0x3b726567, 0x20613b65, 0x6e646d6f), 20);
        c.due("feed", c.theatre.feed(0x64756c65, -1, 0x80000000, 0, 1), 40);
        c.count(0, 40);
        c.bad("end(-1)", () -> c.theatre.end(-1));
        c.bad("end(41)", () -> c.theatre.end(41));
        c.bad("end of the least number", () -> c.theatre.end(Integer.MIN_VALUE));
        c.count(0, 40);
        c.due("end(16)", c.theatre.end(16), 24);
        c.due("end(0)", c.theatre.end(0), 24);
        c.due("build()", c.theatre.build(), 1);
        c.dueText("name", c.name(0), "a");
        c.count(0, 0);
        c.faulty(1, 0, "\u00ff\u0080");
    }

    private static void full() {
        Case c = new Case("32768 bytes at most");
        for (int k = 1; k <= 1638; k++) {
            c.due("feed", c.theatre.feed(0x20202020, 0x20202020, 0x20202020, 0x20202020, 0x20202020),
                    20 * k);
        }
        c.refused("feed beyond 32768", IndexOutOfBoundsException.class,
                () -> c.theatre.feed(1, 2, 3, 4, 5));
        c.count(0, 32760);
        c.due("end(12)", c.theatre.end(12), 32748);
        c.due("feed up to 32768",
                c.theatre.feed(0x20202020, 0x20202020, 0x20202020, 0x20202020, 0x20202020), 32768);
        c.refused("feed behind 32768", IndexOutOfBoundsException.class,
                () -> c.theatre.feed(1, 2, 3, 4, 5));
        c.faulty(1, 32768, "");
        c.count(0, 0);
    }
}
