import java.nio.charset.StandardCharsets;
import java.util.NoSuchElementException;

/** What the tests share: an object that is fed with texts, and answers compared with those due. */
final class Case {
    private static int wrong;

    final SignalTheatre theatre = new SignalTheatre();
    private final String name;

    Case(String name) {
        this.name = name;
    }

    /** A new object with the circuit of a text. */
    static Case of(String name, String text) {
        Case made = new Case(name);
        made.build(text);
        return made;
    }

    /** Ends a test with exit code 1 if an answer was wrong. */
    static void close() {
        System.out.println(wrong == 0 ? "all answers are as due" : wrong + " answers are not as due");
        if (wrong != 0) {
            System.exit(1);
        }
    }

    void due(String call, long got, long want) {
        if (got != want) {
            wrong++;
            System.out.println(name + ": " + call + " answered " + got + ", due is " + want);
        }
    }

    void dueText(String call, String got, String want) {
        if (!got.equals(want)) {
            wrong++;
            System.out.println(name + ": " + call + " answered [" + got + "], due is [" + want + "]");
        }
    }

    interface Call {
        void make();
    }

    /** A call must throw the exception, and exactly that class. */
    void refused(String call, Class<? extends RuntimeException> by, Call made) {
        String got = "nothing";
        try {
            made.make();
        } catch (RuntimeException e) {
            got = e.getClass().getName();
        }
        dueText(call + " throws", got, by.getName());
    }

    /** A refused call must change nothing that another call could tell. */
    void refusedUnchanged(String call, Class<? extends RuntimeException> by, Call made) {
        String before = all();
        refused(call, by, made);
        dueText("all after " + call, all(), before);
    }

    void bad(String call, Call made) {
        refused(call, IllegalArgumentException.class, made);
    }

    void notThere(String call, Call made) {
        refused(call, NoSuchElementException.class, made);
    }

    Case feed(String text) {
        return feed(text.getBytes(StandardCharsets.ISO_8859_1));
    }

    Case feed(byte[] bytes) {
        int fed = (bytes.length + 19) / 20 * 20;
        int[] numbers = new int[fed / 4];
        for (int k = 0; k < fed; k++) {
            int one = k < bytes.length ? bytes[k] & 255 : 0;
            numbers[k / 4] |= one << 24 - k % 4 * 8;
        }
        for (int k = 0; k < numbers.length; k += 5) {
            theatre.feed(numbers[k], numbers[k + 1], numbers[k + 2], numbers[k + 3], numbers[k + 4]);
        }
        theatre.end(fed - bytes.length);
        return this;
    }

    /** Builds a text that has no fault. */
    int build(String text) {
        feed(text);
        try {
            return theatre.build();
        } catch (IllegalStateException e) {
            wrong++;
            System.out.println(name + ": fault " + theatre.fault(0) + " at " + theatre.fault(1)
                    + " in [" + text + "], none is due");
            return -1;
        }
    }

    /** A text must have a fault: the place is that of the mark in it, which is taken out. */
    Case faulty(int number, String marked) {
        int place = marked.indexOf('\u00a7');
        return faulty(number, place, marked.substring(0, place) + marked.substring(place + 1));
    }

    Case faulty(int number, int place, String text) {
        feed(text);
        boolean thrown = false;
        try {
            theatre.build();
        } catch (IllegalStateException e) {
            thrown = true;
        }
        String got = thrown ? theatre.fault(0) + " at " + theatre.fault(1) : "none";
        dueText("fault of [" + text + "]", got, number + " at " + place);
        return this;
    }

    /** The last text that is right still, and the first one that is not, after which all stays. */
    static void edge(String sentence, int number, String right, String wrongMarked) {
        Case c = of(sentence, right);
        c.theatre.run(50);
        String before = c.circuit();
        c.faulty(number, wrongMarked).count(0, 0);
        c.dueText("the circuit behind a fault", c.circuit(), before);
    }

    /** All that calls tell of the circuit. */
    String circuit() {
        StringBuilder all = new StringBuilder("time " + theatre.time() + " counts");
        for (int what = 1; what < 12; what++) {
            all.append(' ').append(theatre.count(what));
        }
        for (int v = 0; v < theatre.count(1); v++) {
            all.append('\n').append(name(v));
            for (int what = 0; what < 4; what++) {
                all.append(' ').append(theatre.told(v, what));
            }
            for (int w = 0; w < Math.max(1, theatre.told(v, 2)); w++) {
                all.append(' ').append(bits(v, w));
            }
        }
        return all.append('\n').append(log()).toString();
    }

    /** All that calls tell. */
    String all() {
        return "fault " + theatre.fault(0) + " at " + theatre.fault(1) + ", input " + theatre.count(0)
                + "\n" + circuit();
    }

    Case run(int n, int want) {
        due("run(" + n + ")", theatre.run(n), want);
        return this;
    }

    Case count(int what, int want) {
        due("count(" + what + ")", theatre.count(what), want);
        return this;
    }

    Case time(long want) {
        due("time()", theatre.time(), want);
        return this;
    }

    /** The bits of a value, the highest first. */
    String bits(int v, int w) {
        StringBuilder bits = new StringBuilder();
        long ones = theatre.value(v, w, 0);
        long unknown = theatre.value(v, w, 1);
        for (int k = theatre.told(v, 0) - 1; k >= 0; k--) {
            boolean one = (ones >>> k & 1) != 0;
            boolean odd = (unknown >>> k & 1) != 0;
            bits.append(odd ? one ? 'x' : 'z' : one ? '1' : '0');
        }
        return bits.toString();
    }

    Case is(int v, String want) {
        dueText("value of " + v, bits(v, 0), want);
        return this;
    }

    Case is(int v, int w, String want) {
        dueText("value of " + v + ", " + w, bits(v, w), want);
        return this;
    }

    String log() {
        StringBuilder log = new StringBuilder();
        for (int k = 0; k < theatre.count(4); k++) {
            log.append((char) theatre.log(k));
        }
        return log.toString();
    }

    Case logs(String want) {
        dueText("log", log(), want);
        return this;
    }

    String name(int v) {
        StringBuilder letters = new StringBuilder();
        for (int k = 0; k < theatre.told(v, 4); k++) {
            letters.append((char) theatre.letter(v, k));
        }
        return letters.toString();
    }
}
