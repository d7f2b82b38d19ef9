/** Promise 1: nothing is there. */
public final class NewObjectTest {
    public static void main(String[] args) {
        Case c = new Case("a new object");
        for (int what = 0; what <= 11; what++) {
            c.count(what, 0);
        }
        c.count(-1, -1).count(12, -1).count(Integer.MIN_VALUE, -1).time(0);
        c.due("fault(0)", c.theatre.fault(0), 0);
        c.due("fault(1)", c.theatre.fault(1), -1);
        c.refused("run(1)", IllegalStateException.class, () -> c.theatre.run(1));
        c.bad("run(0)", () -> c.theatre.run(0));
        c.notThere("value(0, 0, 0)", () -> c.theatre.value(0, 0, 0));
        c.bad("value(0, 0, 2)", () -> c.theatre.value(0, 0, 2));
        c.notThere("set(0, 0, 0, 0)", () -> c.theatre.set(0, 0, 0, 0));
        c.notThere("told(0, 0)", () -> c.theatre.told(0, 0));
        c.bad("told(0, 5)", () -> c.theatre.told(0, 5));
        c.notThere("letter(0, 0)", () -> c.theatre.letter(0, 0));
        c.refused("log(0)", IndexOutOfBoundsException.class, () -> c.theatre.log(0));
        c.bad("end(1)", () -> c.theatre.end(1));
        c.due("end(0)", c.theatre.end(0), 0);
        Case.close();
    }
}
