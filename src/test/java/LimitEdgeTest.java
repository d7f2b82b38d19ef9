/** Edges of FAULTS 2, 3, 5 and 6: as much as may be and one more, known and not known, and which is found first. */
public final class LimitEdgeTest {
    public static void main(String[] args) {
        signals();
        words();
        tasks();
        links();
        instances();
        deep();
        tokens();
        tops();
        twice();
        kinds();
        firstFound();
        leastPlace();
        Case.close();
    }

    private static String many(String one, int times) {
        StringBuilder text = new StringBuilder();
        for (int k = 0; k < times; k++) {
            text.append(one.replace("#", "" + k));
        }
        return text.toString();
    }

    /** "VARIABLES and NETS above 400 .. at its NAME." */
    private static void signals() {
        Case.edge("regs", 5, "module t;" + many("reg r#;", 400) + "endmodule",
                "module t;" + many("reg r#;", 400) + "reg \u00a7r; endmodule");
        Case.edge("in one ITEM", 5, "module t; wire a" + many(", r#", 399) + "; endmodule",
                "module t; wire a" + many(", r#", 399) + ", \u00a7b, c; endmodule");
        Case.edge("integers and MEMORIES", 5, "module t; integer a" + many(", r#", 398) + "; reg m[1:0]; endmodule",
                "module t; integer a" + many(", r#", 399) + "; reg \u00a7m[1:0]; endmodule");
        Case.edge("ports", 5, "module t(input a" + many(", output r#", 399) + "); endmodule",
                "module t(input a" + many(", output r#", 399) + ", input \u00a7b); endmodule");
        Case.edge("of instances", 5, "module t;" + many("u x#();", 100) + "endmodule module u(input a); reg b, c, d; endmodule",
                "module t; reg r;" + many("u x#();", 100) + "endmodule module u(input a); reg b, c, \u00a7d; endmodule");
        Case.edge("ports of instances", 5, "module t;" + many("u x#();", 100)
                + "endmodule module u(input a, input b); reg c, d; endmodule",
                "module t; reg q, r, s;" + many("u x#();", 100)
                        + "endmodule module u(input a, input \u00a7b); reg c, d; endmodule");
        // Parameters and instances are neither.
        Case c = Case.of("neither", "module t;" + many("localparam p# = 1;", 500) + many("u x#();", 100) + many("reg r#;", 400)
                + "endmodule module u; endmodule");
        c.count(1, 400);
        c.due("the last", c.theatre.told(399, 0), 1);
        c.notThere("one more", () -> c.theatre.told(400, 0));
    }

    /** "words of MEMORIES above 8192 together." */
    private static void words() {
        Case.edge("in two", 5, "module t; reg m[0:4095], n[4096:1]; endmodule",
                "module t; reg m[0:4095], n[4096:1], \u00a7k[3:3]; endmodule");
        Case.edge("in many", 5, "module t; reg [63:0] a" + many(", m#[1:1024]", 8) + ", b; endmodule",
                "module t; reg [63:0] a, c[0:0]" + many(", m#[1:1024]", 7) + ", \u00a7b[1:1024]; endmodule");
        Case.edge("in instances", 5, "module t; u x(); u y(); endmodule module u; reg m[1:4096]; endmodule",
                "module t; u x(); u y(); reg \u00a7m[1:1]; endmodule module u; reg m[1:4096]; endmodule");
        Case.edge("4 before 5", 4, "module t; reg m[0:4095], n[4096:1]; endmodule",
                "module t; reg m[0:4095], k[\u00a70:4096]; endmodule");
        Case.edge("beside 398 others", 5, "module t; reg m[0:4095]" + many(", r#", 398) + ", n[4096:1]; endmodule",
                "module t; reg m[0:4095]" + many(", r#", 398) + ", n[4096:1], \u00a7k; endmodule");
        Case c = Case.of("the last words",
                "module t; reg [63:0] m[0:4095], n[4096:1]; initial begin n[4096] = 7; m[4095] = 6; end endmodule");
        c.run(9, 2).due("word", c.theatre.value(1, 4095, 0), 7);
        c.due("word", c.theatre.value(0, 4095, 0), 6);
        c.notThere("one more", () -> c.theatre.value(1, 4096, 0));
    }

    /** "ASSIGNS and processes above 400 together .. at .. the first TOKEN of ITEM." */
    private static void tasks() {
        Case.edge("assigns", 5, "module t; wire w;" + many("assign w = 1;", 400) + "endmodule",
                "module t; wire w;" + many("assign w = 1;", 400) + "\u00a7assign w = 1; endmodule");
        Case.edge("initials", 5, "module t;" + many("initial ;", 400) + "endmodule", "module t;" + many("initial ;", 400)
                + "\u00a7initial ; endmodule");
        Case.edge("always", 5, "module t;" + many("always ;", 400) + "endmodule", "module t;" + many("always ;", 400)
                + "\u00a7always ; endmodule");
        Case.edge("together", 5, "module t; wire w;" + many("initial ; assign w = 1;", 200) + "endmodule",
                "module t; wire w; initial ;" + many("initial ; assign w = 1;", 199) + "initial ; \u00a7assign w = 1; endmodule");
        Case.edge("of instances", 5, "module t;" + many("u x#();", 100) + "endmodule module u; wire w; assign w = 1; "
                + many("initial ;", 3) + "endmodule",
                "module t; initial ;" + many("u x#();", 100)
                        + "endmodule module u; wire w; assign w = 1; initial ; initial ; \u00a7initial ; endmodule");
        Case c = Case.of("all are done", "module t; wire w; integer n; initial n = 0;"
                + many("initial n = n + 1; assign w = 1;", 199)
                + "assign w = 0; endmodule");
        c.count(2, 200).count(3, 200).count(6, 400).run(2000, 2).is(0, "x").due("n", c.theatre.value(1, 0, 0), 199);
    }

    /** "each LINK that is not empty counts as an ASSIGN, its port known or not": at the LINK's first TOKEN. */
    private static void links() {
        String port = " module u(input a, input b, output c); endmodule";
        String tasks = "module t; wire w, v;" + many("initial ;", 399);
        Case.edge("an input", 5, tasks + "u x(.a(w)); endmodule" + port, tasks + "u x(.a(w), \u00a7.b(w)); endmodule" + port);
        Case.edge("an output", 5, tasks + "u x(.c(w)); endmodule" + port, tasks + "u x(.a(w), \u00a7.c(w)); endmodule" + port);
        Case.edge("empty ones", 5, tasks + "u x(.a(), .c(w), .b()); endmodule" + port, tasks
                + "u x(.a(w), .b(), \u00a7.c(w)); endmodule" + port);
        Case.edge("not known", 5, tasks + "u x(.c(w)); endmodule" + port, tasks + "u x(.c(w), \u00a7.q(w)); endmodule" + port);
        Case.edge("not known and empty", 2, tasks + "u x(.c(w)); endmodule" + port, tasks + "u x(.c(w), .\u00a7q()); endmodule"
                + port);
        Case.edge("linked twice", 5, tasks + "u x(.c(w)); endmodule" + port, tasks + "u x(.c(w), \u00a7.c(w)); endmodule" + port);
        Case.edge("with a fault", 5, tasks + "u x(.c(w)); endmodule" + port, tasks + "u x(.c(w), \u00a7.a(q)); endmodule" + port);
        Case.edge("its ITEMS behind it", 5, tasks + "u x(.a(w)); endmodule module u(input a); endmodule",
                tasks + "u x(.a(w)); endmodule module u(input a); \u00a7initial ; endmodule");
        Case.edge("parameters are none", 5, tasks
                + "u #(.P(1), .Q(2)) x(.a(w)); endmodule module u #(parameter P = 1, parameter Q = 2) (input a); endmodule",
                tasks + "initial ; u #(.P(1), .Q(2)) x(\u00a7.a(w)); endmodule module u #(parameter P = 1, parameter Q = 2) (input a); endmodule");
        Case.of("counted", "module t; wire w, v; u x(.a(w), .b(), .c(v)); u y(); endmodule" + port).count(2, 2).count(1, 8);
    }

    /** "instances above 100 .. (an instance: at its NAME)." */
    private static void instances() {
        Case.edge("100", 5, "module t;" + many("u x#();", 100) + "endmodule module u; endmodule",
                "module t;" + many("u x#();", 100) + "u \u00a7y(); endmodule module u; endmodule");
        Case.edge("in others", 5, "module t;" + many("u x#();", 50) + "endmodule module u; v y(); endmodule module v; endmodule",
                "module t; v a();" + many("u x#();", 50) + "endmodule module u; v \u00a7y(); endmodule module v; endmodule");
        Case.edge("with links before its NAME", 5, "module t;" + many("u x#();", 99)
                + "u #(.P(1)) y(); endmodule module u #(parameter P = 1); endmodule",
                "module t;" + many("u x#();", 100) + "u #(.Q(q)) \u00a7y(); endmodule module u #(parameter P = 1); endmodule");
        Case c = Case.of("the last", "module t;" + many("u x#();", 100) + "endmodule module u; reg a; endmodule");
        c.dueText("name", c.name(99), "x99.a");
    }

    private static String chain(int most, String last) {
        StringBuilder text = new StringBuilder("module t; u1 x(); endmodule ");
        for (int k = 1; k < most; k++) {
            text.append("module u").append(k).append("; u").append(k + 1).append(" x(); endmodule ");
        }
        return text + "module u" + most + "; " + last + " endmodule";
    }

    /** "or above 20 deep in one another." */
    private static void deep() {
        Case.edge("20", 5, chain(20, "reg a;"), chain(20, "v \u00a7y(); endmodule module v;"));
        Case.edge("itself", 5, "module t; u x(); endmodule module u; endmodule",
                "module t; u x(); endmodule module u; u \u00a7x(); endmodule");
        Case c = Case.of("20", chain(20, "reg a;"));
        c.dueText("name", c.name(0), "x.".repeat(20) + "a");
        // Those that are over do not count.
        Case.of("beside one another", chain(20, "reg a;").replace("u2 x();", "u2 x(); u3 y();")).count(1, 2);
    }

    /** "MODULES' TOKENS above 40000 together." */
    private static void tokens() {
        String top = "module t; u a(); u b(); u c(); v \u00a7d(); endmodule ";
        String body = "module u; initial begin " + ";".repeat(13000) + "end endmodule ";
        // 24 of the TOP and 3 * 13007 are 39045, which leaves 955.
        String last = "module v; initial begin " + ";".repeat(948) + "end endmodule";
        Case.edge("40000", 5, top.replace("\u00a7", "") + body + last, top + body + last.replace("begin ", "begin ;"));
        Case.edge("of the TOP", 5, top.replace("\u00a7", "") + body + last,
                top.replace("module t;", "module t; initial ;") + body + last);
        Case.edge("wherever the TOP stands", 5, body + last + " " + top.replace("\u00a7", ""),
                body + last.replace("begin ", "begin ;") + " " + top);
        Case.edge("not of those that are not flattened", 5, top.replace("\u00a7", "") + body + last
                + " module x; y z(); endmodule module y; x z(); initial begin " + ";".repeat(5000) + " end endmodule",
                top + body + last.replace("begin ", "begin ;"));
    }

    /** "6 no TOP, or more than one: at 0." */
    private static void tops() {
        Case c = Case.of("TOP", "module t; endmodule");
        c.faulty(6, 0, "module t; endmodule module u; endmodule");
        c.faulty(6, 0, " \n module t; t x(); endmodule");
        c.faulty(6, 0, "module t; u x(); endmodule module u; t x(); endmodule");
        c.faulty(6, 0, "module t; u x(); endmodule module u; endmodule module v; endmodule");
        // Before anything else that is wrong in them, but for their NAMES.
        c.faulty(6, 0, "module t; reg a, a; endmodule module u; assign b = 1; endmodule");
        c.faulty(2, "module t; endmodule module \u00a7t; endmodule");
        c.faulty(2, "module t; endmodule module u; endmodule module \u00a7u; endmodule");
        c.faulty(2, "module t; u x(); endmodule module u; endmodule module \u00a7u; reg a, a; endmodule");
        c.faulty(1, "module t; endmodule module u; \u00a7");
        // Instantiated by one that is not in the circuit itself.
        c.build("module u; endmodule module t; endmodule module v; v x(); u y(); endmodule");
        c.build("module u; u x(); q y(); reg a, a; endmodule module t; endmodule");
    }

    /** "2 a NAME not known or known and not to be (modules, parameters, ports, NAMES in a MODULE; ..)." */
    private static void twice() {
        String[] firsts = {"reg a;", "wire a;", "wand [1:0] a;", "integer a;", "localparam a = 1;", "reg a[1:0];", "u a();"};
        String[] seconds = {"reg \u00a7a;", "wor \u00a7a;", "integer \u00a7a;", "localparam \u00a7a = 1;", "reg \u00a7a[1:0];",
                "u \u00a7a();"};
        String rest = " u z(); endmodule module u; reg a; endmodule";
        for (String first : firsts) {
            for (String second : seconds) {
                Case.edge("twice", 2, "module t; " + first + rest, "module t; " + first + second + rest);
                Case.edge("as a port", 2, "module t(input b); " + first + rest, "module t(input a); " + second + rest);
                Case.edge("as a parameter", 2, "module t #(parameter b = 1); " + first + rest,
                        "module t #(parameter a = 1); " + second + rest);
            }
        }
        Case.of("in other MODULES", "module a #(parameter b = 1) (input c); u u(); v v(); endmodule module u; reg a, b, c, v; "
                + "endmodule module v; reg a, b, c, u; endmodule").count(1, 9);
        String[] places = {"a = \u00a7q;", "a = 1 + \u00a7q[0];", "a = 1 + \u00a7q[1:0];", "\u00a7q = 1;", "\u00a7q[0] = 1;",
                "\u00a7q[1:0] <= 1;", "{a, \u00a7q} = 1;",
            "#\u00a7q ;", "@(\u00a7q) ;", "@(a or negedge \u00a7q[0]) ;", "wait (\u00a7q) ;", "if (\u00a7q) ;",
                    "case (\u00a7q) 1: ; endcase", "case (1) \u00a7q: ; endcase",
            "for (\u00a7q = 0; 0; a = 1) ;", "for (a = 0; \u00a7q; a = 1) ;", "for (a = 0; 0; \u00a7q = 1) ;",
                    "for (a = 0; 0; a = \u00a7q) ;", "while (\u00a7q) ;",
            "repeat (\u00a7q) ;", "$write(\u00a7q);", "a = #\u00a7q 1;", "a = @(\u00a7q) 1;", "a <= #\u00a7q 1;",
                    "a = {\u00a7q{1'b1}};", "a = {1'b1, \u00a7q};",
            "a = 1 ? \u00a7q : 1;", "a = $signed(\u00a7q);", "a = !\u00a7q;", "a = a[\u00a7q];", "a[\u00a7q] = 1;",
                    "a = a[\u00a7q:0];", "a[0:\u00a7q] = 1;"};
        for (String place : places) {
            String right = place.replace("\u00a7q", "b");
            Case.edge("not known in " + place, 2, "module t; reg [1:0] a; reg [1:0] b; " + (isConstant(place) ? "" : "initial "
                    + right) + " endmodule",
                    "module t; reg [1:0] a; reg [1:0] b; initial " + place + " endmodule");
        }
        Case.edge("a MODULE's NAME is none in it", 2, "module t; reg t; endmodule", "module t; initial \u00a7t = 1; endmodule");
        Case.edge("not before it is declared", 2, "module t; reg a; initial a = 1; endmodule",
                "module t; initial \u00a7a = 1; reg a; endmodule");
        Case.edge("not behind its instance", 2, "module t; u x(); reg b; endmodule module u; reg b; initial b = 1; endmodule",
                "module t; reg b; u x(); endmodule module u; initial \u00a7b = 1; endmodule");
        Case.edge("not an instance's", 2, "module t; u x(); reg b; endmodule module u; reg a; endmodule",
                "module t; u x(); reg b; initial b = \u00a7a; endmodule module u; reg a; endmodule");
        String inner = " module u #(parameter P = 1) (input a, output b); localparam L = 1; wire c; endmodule";
        Case.edge("a port", 2, "module t; wire w; u x(.a(w), .b(w)); endmodule" + inner,
                "module t; wire w; u x(.\u00a7c(w)); endmodule" + inner);
        Case.edge("a port linked twice", 2, "module t; wire w; u x(.a(w)); endmodule" + inner,
                "module t; wire w; u x(.a(w), .b(), .\u00a7a(w)); endmodule" + inner);
        Case.edge("a parameter", 2, "module t; u #(.P(1)) x(); endmodule" + inner, "module t; u #(.\u00a7L(1)) x(); endmodule"
                + inner);
        Case.edge("a parameter linked twice", 2, "module t; u #(.P(1)) x(); endmodule" + inner,
                "module t; u #(.P(1), .\u00a7P(1)) x(); endmodule" + inner);
        Case.edge("a port as a parameter", 2, "module t; u #(.P(1)) x(); endmodule" + inner,
                "module t; u #(.\u00a7a(1)) x(); endmodule" + inner);
        Case.edge("a parameter as a port", 2, "module t; u x(.a(1)); endmodule" + inner, "module t; u x(.\u00a7P(1)); endmodule"
                + inner);
    }

    private static boolean isConstant(String place) {
        return place.contains("{\u00a7q{") || place.contains("q:0]") || place.contains("[0:");
    }

    private static void kind(String right, String wrongMarked) {
        String start = "module t; reg a, m[1:0]; wire w; integer i; localparam P = 1; ";
        String end = " u z(); endmodule module u(input p, output q, output reg r); endmodule";
        Case.edge(wrongMarked, 3, start + right + end, start + wrongMarked + end);
    }

    /** "3 not of the right kind (..), at that NAME, or the EXPR's first TOKEN." */
    private static void kinds() {
        kind("initial a = m[0];", "initial a = 1 + \u00a7m;");
        kind("initial a = m[0];", "initial a = 1 + \u00a7m[1:0];");
        kind("initial m[0] = 1;", "initial \u00a7m = 1;");
        kind("initial m[0] = 1;", "initial \u00a7m[1:0] = 1;");
        kind("initial {a, m[0]} = 1;", "initial {a, \u00a7m} = 1;");
        kind("initial a = i[0];", "u x(); initial a = \u00a7x[0];");
        kind("initial a = i[1:0];", "u x(); initial a = \u00a7x[1:0];");
        kind("initial a = i;", "u x(); initial a = \u00a7x;");
        kind("initial a = 1;", "u x(); initial \u00a7x = 1;");
        kind("initial @(a) ;", "initial @(a or \u00a7m) ;");
        kind("initial @(a) ;", "initial @(posedge \u00a7m[0]) ;");
        kind("assign w = m[0];", "assign w = \u00a7m;");
        kind("initial a = 1;", "initial \u00a7w = 1;");
        kind("initial a <= 1;", "initial \u00a7w[0] <= 1;");
        kind("initial a = 1;", "initial \u00a7P = 1;");
        kind("assign w = 1;", "assign \u00a7a = 1;");
        kind("assign w = 1;", "assign {w, \u00a7i[1:0]} = 1;");
        kind("assign w = 1;", "assign \u00a7m[0] = 1;");
        kind("assign w = 1;", "assign \u00a7P = 1;");
        kind("initial for (i = 0; 0; i = 1) ;", "initial for (\u00a7w = 0; 0; i = 1) ;");
        kind("initial for (i = 0; 0; a = 1) ;", "initial for (i = 0; 0; \u00a7w = 1) ;");
        kind("initial for (i = 0; 0; i = 1) ;", "initial for (\u00a7m = 0; 0; i = 1) ;");
        kind("initial for (i = 0; 0; i = 1) ;", "initial for (i = 0; 0; \u00a7P = 1) ;");
        kind("initial a <= #1 1;", "initial a <= \u00a7@(a) 1;");
        kind("initial a = @(a) 1;", "initial begin a = @(a) 1; a <= \u00a7@(posedge a) 1; end");
        kind("u x(.p(1 + a));", "u x(.p(1 + \u00a7m));");
        kind("u x(.q(w));", "u x(.q(\u00a7a));");
        kind("u x(.q(w), .r());", "u x(.q(w), .r(\u00a7i));");
        kind("u x(.q({w, w}));", "u x(.q({w, \u00a71'b1}));");
        kind("u x(.q(w[0]));", "u x(.q(\u00a7w[0] + w));");
        kind("u x(.q({w}));", "u x(.q(\u00a7{1{w}}));");
        kind("u x(.q({{w}, w}));", "u x(.q({{w}, {w, \u00a7(w)}}));");
        kind("u x(.q(w));", "u x(.q(\u00a7(w)));");
        kind("u x(.q(w));", "u x(.q(\u00a7-w));");
        kind("u x(.q(w));", "u x(.q(\u00a7w ? w : w));");
        kind("u x(.q(w));", "u x(.q(\u00a7$signed(w)));");
        kind("u x(.q(w));", "u x(.q(\u00a7P));");
        kind("u x(.q(w[P]));", "u x(.q(w[\u00a7i]));");
        // The first of all NAMES of the circuit is a port, too.
        Case.edge("an output", 3, "module t; u x(.a(1)); endmodule module u(input a); endmodule",
                "module t; u x(.a(\u00a71)); endmodule module u(output a); endmodule");
        Case.edge("an input that's a reg", 3, "module t(output reg a); endmodule", "module t(input reg \u00a7a); endmodule");
        Case.edge("an input that's a reg", 3, "module t(input wire a); endmodule",
                "module t(input reg signed [1:0] \u00a7a); endmodule");
    }

    /** "the first found of these (of the first MODULE, ITEM, link or declared NAME that has one ..)." */
    private static void firstFound() {
        Case c = new Case("first found");
        c.faulty(3, "module t; wire w; initial \u00a7w = 1; reg [64:0] a; assign q = 1; endmodule");
        c.faulty(4, "module t; reg [\u00a764:0] a; initial q = 1; endmodule");
        c.faulty(2, "module t; reg a, b, \u00a7a, m[0:4096]; endmodule");
        c.faulty(4, "module t; reg a, m[\u00a70:4096], a; endmodule");
        // In a MODULE that stands before the TOP, but is flattened later.
        c.faulty(2, "module u; initial q = 1; endmodule module t; assign \u00a7r = 1; u x(); endmodule");
        c.faulty(2, "module u; initial \u00a7q = 1; endmodule module t; u x(); assign r = 1; endmodule");
        // Its own NAME, parameter links, parameters, ports, links, ITEMS.
        String tail = "; endmodule module u #(parameter P = ";
        c.faulty(2, "module t; reg x; u #(.P(q)) \u00a7x(.a(q))" + tail + "q) (input [64:0] a); initial q = 1; endmodule");
        c.faulty(2, "module t; reg y; u #(.P(\u00a7q)) x(.a(q))" + tail + "q) (input [64:0] a); initial q = 1; endmodule");
        c.faulty(2, "module t; reg y; u x(.a(q))" + tail + "\u00a7q) (input [64:0] a); initial q = 1; endmodule");
        c.faulty(4, "module t; reg y; u x(.a(q))" + tail + "1) (input [\u00a764:0] a); initial q = 1; endmodule");
        c.faulty(2, "module t; reg y; u x(.a(\u00a7q))" + tail + "1) (input [63:0] a); initial q = 1; endmodule");
        c.faulty(2, "module t; reg y; u x(.a(y))" + tail + "1) (input [63:0] a); initial \u00a7q = 1; endmodule");
        // The same with the MODULE before the TOP: the first found has a greater PLACE than the others.
        String inner = "module u #(parameter P = 1, parameter R = %) (input [%:0] a, input b); initial % = 1; endmodule module t; reg y; ";
        String[][] firsts = {{"q 64 q", "u #(.P(q)) \u00a7y(.a(q)); endmodule"}, {"q 64 q", "u #(.P(\u00a7q)) x(.a(q)); endmodule"},
            {"q 64 q", "u #(.P(1), .\u00a7S(1)) x(.a(q)); endmodule"}, {"\u00a7q 64 q", "u x(.a(q)); endmodule"},
                    {"1 \u00a764 q", "u x(.a(q)); endmodule"},
            {"1 63 q", "u x(.a(\u00a7q)); endmodule"}, {"1 63 q", "u x(.a(1), .b(\u00a7q)); endmodule"}, {"1 63 q",
                    "u x(.a(1), .\u00a7a(1)); endmodule"},
            {"1 63 \u00a7q", "u x(.a(1)); assign q = 1; endmodule"}, {"1 63 q", "assign \u00a7q = 1; u x(.a(1)); endmodule"},
            {"1 63 q", "initial \u00a7q = 1; u x(.a(1)); endmodule"}, {"1 63 q", "wire [\u00a764:0] w; u x(.a(1)); endmodule"},
            {"1 63 q", "localparam L = \u00a7q; u x(.a(1)); endmodule"}, {"1 63 q", "reg z, \u00a7z; u x(.a(1)); endmodule"},
            {"1 63 q", "integer \u00a7y; u x(.a(1)); endmodule"}, {"1 63 q", "\u00a7v z(); u x(.a(1)); endmodule"}};
        for (String[] one : firsts) {
            String text = inner;
            for (String part : one[0].split(" ")) {
                text = text.replaceFirst("%", part);
            }
            c.faulty((text + one[1]).contains("\u00a764") ? 4 : 2, text + one[1]);
        }
        c.faulty(2, "module u #(parameter R = q, parameter P = 1); endmodule module t; u #(.P(\u00a7z)) x(); endmodule");
        c.faulty(2, "module u #(parameter R = q, parameter P = 1); endmodule module t; u #(.P(1), .\u00a7S()) x(); endmodule");
        c.faulty(2, "module u #(parameter R = \u00a7q, parameter P = 1); endmodule module t; u #(.P(1)) x(.a(q)); endmodule");
        // Of several links the first.
        c.faulty(2, "module t; u #(.P(\u00a7q), .R(1), .P(1)) x()" + tail + "1); endmodule");
        c.faulty(2, "module t; u x(.a(\u00a7q), .b(1))" + tail + "1) (input a); endmodule");
        c.faulty(3, "module t; reg r; u x(.a(1), .b(\u00a7r), .a(q))" + tail + "1) (input a, output b); endmodule");
        // Of the parameters' own EXPRS those that are not linked.
        c.faulty(2, "module t; u #(.P(1)) x()" + tail + "q, parameter R = \u00a7q); endmodule");
        c.build("module t; u #(.P(1), .R(2)) x()" + tail + "q, parameter R = q); endmodule");
    }

    /** "there that with the least PLACE, of equal ones the lesser number." */
    private static void leastPlace() {
        Case c = new Case("least PLACE");
        c.faulty(2, "module t; wire w; initial begin \u00a7q = w; w = 1; end endmodule");
        c.faulty(3, "module t; wire w; initial begin \u00a7w = q; q = 1; end endmodule");
        c.faulty(4, "module t; reg [3:0] a; initial a[\u00a74:0] = q; endmodule");
        c.faulty(2, "module t; reg [3:0] a; initial \u00a7q[4:a] = a[4:0]; endmodule");
        c.faulty(3, "module t; reg [3:0] a; initial a = {\u00a7a{a[4:0]}}; endmodule");
        // No CONSTANT at the first TOKEN, a NAME that is not known behind it.
        c.faulty(3, "module t; reg a; reg [\u00a71 + a + q:0] b; endmodule");
        c.faulty(2, "module t; reg a; reg [\u00a7q + a:0] b; endmodule");
        c.faulty(2, "module t; reg a; reg [1 + \u00a7q:0] b; endmodule");
        c.faulty(3, "module t; wire w; u x(.a(\u00a71 + q)); endmodule module u(output a); endmodule");
        c.faulty(2, "module t; wire w; u x(.a(\u00a7q + 1)); endmodule module u(output a); endmodule");
        c.faulty(2, "module t; wire w; u x(.\u00a7b(q)); endmodule module u(output a); endmodule");
        c.faulty(2, "module t; reg x; \u00a7v x(.b(q)); endmodule");
        String full = "module t; reg a" + many(", r#", 399) + "; ";
        c.faulty(2, full + "reg \u00a7a; endmodule");
        c.faulty(5, full + "reg \u00a7b; endmodule");
        c.faulty(5, full + "reg \u00a7m[0:4096]; endmodule");
        c.faulty(3, "module t(input a" + many(", input r#", 399) + ", input reg \u00a7b); endmodule");
        String tasks = "module t; wire w; " + many("initial ;", 400);
        c.faulty(5, tasks + "\u00a7assign q = r; endmodule");
        c.faulty(5, tasks + "\u00a7always q = r; endmodule");
        String instances = "module t;" + many("u x#();", 100);
        c.faulty(2, instances + "u \u00a7x1(); endmodule module u; endmodule");
        c.faulty(2, instances + "\u00a7v x1(); endmodule module u; endmodule");
    }
}
