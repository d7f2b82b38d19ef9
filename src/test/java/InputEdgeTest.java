/** Edges of INPUT and SPACES, and of promises 2 and 3: the last that is right, the first that is not. */
public final class InputEdgeTest {
    private static final String TEXT = "module t; reg a; initial a = 1; endmodule";

    public static void main(String[] args) {
        emptyAtFirst();
        full();
        ends();
        takenByBuild();
        spaces();
        lineNotes();
        notes();
        Case.close();
    }

    /** "INPUT: at most 32768 CHARACTERS (bytes), empty at first." */
    private static void emptyAtFirst() {
        Case c = new Case("empty at first");
        c.count(0, 0);
        c.refusedUnchanged("end(1)", IllegalArgumentException.class, () -> c.theatre.end(1));
        c.faulty(1, 0, "").count(0, 0);
    }

    private static Case filled(int length) {
        Case c = new Case("INPUT of " + length);
        int before = Math.min(length, 32748);
        c.feed(TEXT + " ".repeat(before - TEXT.length()));
        if (length > before) {
            c.theatre.feed(0x20202020, 0x20202020, 0x20202020, 0x20202020, 0x20202020);
            c.theatre.end(32768 - length);
        }
        return c.count(0, length);
    }

    /** "More than 32768: IndexOutOfBoundsException." */
    private static void full() {
        Case last = filled(32748);
        last.due("feed", last.theatre.feed(0x20202020, 0x20202020, 0x20202020, 0x20202020, 0x20202020), 32768);
        refusesToFeed(last);
        last.due("build()", last.theatre.build(), 1);
        for (int length = 32749; length <= 32768; length++) {
            Case c = filled(length);
            refusesToFeed(c);
            c.count(0, length);
            // What was fed before is as it was.
            c.due("build()", c.theatre.build(), 1);
            c.run(9, 2).is(0, "1").count(0, 0);
            c.due("feed again", c.theatre.feed(1, 2, 3, 4, 5), 20);
        }
    }

    private static void refusesToFeed(Case c) {
        c.refusedUnchanged("feed", IndexOutOfBoundsException.class,
                () -> c.theatre.feed(0x78787878, 0x78787878, -1, Integer.MIN_VALUE, Integer.MAX_VALUE));
    }

    /** "The last n bytes of INPUT go (0 or more, as many must be there; else bad)." */
    private static void ends() {
        Case c = new Case("end").feed(TEXT + "xyz").count(0, TEXT.length() + 3);
        int[] wrong = {-1, TEXT.length() + 4, Integer.MIN_VALUE, Integer.MAX_VALUE, -TEXT.length()};
        for (int n : wrong) {
            c.refusedUnchanged("end(" + n + ")", IllegalArgumentException.class, () -> c.theatre.end(n));
        }
        c.due("end(0)", c.theatre.end(0), TEXT.length() + 3);
        c.due("end(3)", c.theatre.end(3), TEXT.length());
        c.due("build()", c.theatre.build(), 1);
        c.refusedUnchanged("end(1)", IllegalArgumentException.class, () -> c.theatre.end(1));
        c.feed(TEXT);
        c.due("all of them", c.theatre.end(TEXT.length()), 0);
        c.due("none of none", c.theatre.end(0), 0);
        c.faulty(1, 0, "");
    }

    /** "INPUT is read as a TEXT, and empty then", with a FAULT, too. */
    private static void takenByBuild() {
        Case c = Case.of("empty then", TEXT);
        c.count(0, 0).faulty(1, 0, "").count(0, 0);
        c.faulty(2, "module t; initial \u00a7a = 1; endmodule").count(0, 0).faulty(1, 0, "");
        c.feed("module t; ").feed("endmodule").count(0, 19);
        c.due("build()", c.theatre.build(), 0);
        // The bytes of an earlier TEXT are not read again.
        c.faulty(1, 9, "module t;");
    }

    /** "SPACES: bytes 9, 10, 13, 32", and no other one between TOKENS. */
    private static void spaces() {
        for (int c = 0; c < 256; c++) {
            String text = "module t;" + (char) c + "endmodule";
            Case one = new Case("byte " + c);
            boolean name = Character.isLetter(c) && c < 128 || c == '_';
            if (c == 9 || c == 10 || c == 13 || c == 32) {
                one.build(text);
            } else if (name || c == '"') {
                // A longer NAME, behind which another one should stand, or a STRING that isn't closed.
                one.faulty(1, 19, text);
            } else {
                one.faulty(1, c == '\'' ? 10 : 9, text);
            }
        }
    }

    /** "// and all behind it up to a byte 10 or the end." */
    private static void lineNotes() {
        Case.edge("// up to a byte 10", 1, "module t;//\u0000\u00ff\"'\\/*\nendmodule",
                "module t;//\nendmodul\u00a7");
        Case.edge("// not up to a byte 13", 1, "module t;// \r\n endmodule", "module t;// \r endmodule\u00a7");
        Case.edge("// up to the end", 1, "module t; endmodule//", "module t; endmodule\u00a7/");
        Case.edge("// at once", 1, "//\nmodule//\nt//\n;//\nendmodule", "//\nmodule//\nt//\n\u00a7endmodule");
    }

    /** "a slash and a star and all up to the next star and slash." */
    private static void notes() {
        Case.edge("the next star and slash", 1, "module t;/* /* // \n */endmodule",
                "module t;/* /* */\u00a7*/endmodule");
        Case.edge("a star that is not used twice", 1, "module t;/*/ \u0001\u00fe */endmodule",
                "module t; endmodule/*/\u00a7");
        Case.edge("stars before", 1, "module t;/***/endmodule/**/", "module t;endmodule/* * /\u00a7");
        Case.edge("not closed", 1, "module t; endmodule /* */", "module t; endmodule /* *\u00a7");
        Case.edge("between TOKENS", 1, "module/**/t/**/;endmodule", "\u00a7mod/**/ule t; endmodule");
    }
}
