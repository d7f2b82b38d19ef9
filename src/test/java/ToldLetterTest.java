/** Promises 9 and 10: what VARIABLES and NETS are, and their NAMES. */
public final class ToldLetterTest {
    public static void main(String[] args) {
        Case c = Case.of("told", "module u #(parameter W = 4) (input signed [W:1] a, output reg b); "
                + "wor c; v deep(.q(c)); reg signed [7:0] m[9:3]; endmodule "
                + "module top; wire signed [63:0] w; wand d; u #(.W(9)) first(.a(w), .b(d)); integer i; "
                + "u second(); endmodule "
                + "module v(output q); assign q = 1; endmodule");
        c.due("count(1)", c.theatre.count(1), 13);
        told(c, 0, "w", 64, 1, 0, 1);
        told(c, 1, "d", 1, 0, 0, 2);
        told(c, 2, "first.a", 9, 1, 0, 1);
        told(c, 3, "first.b", 1, 0, 0, 0);
        told(c, 4, "first.c", 1, 0, 0, 3);
        told(c, 5, "first.deep.q", 1, 0, 0, 1);
        told(c, 6, "first.m", 8, 1, 7, 0);
        told(c, 7, "i", 32, 1, 0, 0);
        told(c, 8, "second.a", 4, 1, 0, 1);
        told(c, 12, "second.m", 8, 1, 7, 0);
        c.bad("told(0, 5)", () -> c.theatre.told(0, 5));
        c.bad("told(99, -1)", () -> c.theatre.told(99, -1));
        c.notThere("told(13, 0)", () -> c.theatre.told(13, 0));
        c.notThere("told(-1, 4)", () -> c.theatre.told(-1, 4));
        c.notThere("letter(13, 0)", () -> c.theatre.letter(13, 0));
        c.notThere("letter(-1, 0)", () -> c.theatre.letter(-1, 0));
        c.notThere("letter(0, 1)", () -> c.theatre.letter(0, 1));
        c.notThere("letter(5, 12)", () -> c.theatre.letter(5, 12));
        c.notThere("letter(0, -1)", () -> c.theatre.letter(0, -1));
        // The NAMES stay when another TEXT has a FAULT.
        c.faulty(1, 0, "x ".repeat(200));
        told(c, 5, "first.deep.q", 1, 0, 0, 1);
        Case.close();
    }

    private static void told(Case c, int v, String name, int... what) {
        c.dueText("name of " + v, c.name(v), name);
        for (int k = 0; k < what.length; k++) {
            c.due("told(" + v + ", " + k + ")", c.theatre.told(v, k), what[k]);
        }
        c.due("told(" + v + ", 4)", c.theatre.told(v, 4), name.length());
    }
}
