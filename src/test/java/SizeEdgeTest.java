import java.util.Random;

/** "what is made of a TEXT is bounded by its length and the limits above": TEXTS as long and as odd as can be. */
public final class SizeEdgeTest {
    public static void main(String[] args) {
        longExpressions();
        longLists();
        manyModules();
        manyParameters();
        manyLoops();
        longNames();
        openOperands();
        farSignals();
        eachSignal();
        again();
        inTurn();
        oddTexts();
        Case.close();
    }

    private static void longExpressions() {
        Case c = Case.of("a long sum", "module t; reg [31:0] a; initial a = " + "1+".repeat(16000) + "1; endmodule");
        c.run(9, 2).due("the sum", c.theatre.value(0, 0, 0), 16001);
        c = Case.of("a long EXPR in an ASSIGN", "module t; reg a; wire w; assign w = " + "a^".repeat(16000) + "a; endmodule");
        c.theatre.set(0, 0, 1, 0);
        c.run(9, 2).is(1, "1").count(5, 1);
        c = Case.of("a long CONSTANT", "module t; localparam P = " + "1-".repeat(8000) + "1; reg [P + 8060:0] a; endmodule");
        c.due("WIDTH", c.theatre.told(0, 0), 62);
        c = Case.of("many numbers", "module t; reg [7:0] a; localparam P = 5; initial begin " + "a=P[2]+P[1];".repeat(2000)
                + " end endmodule");
        c.run(20000, 2).due("a", c.theatre.value(0, 0, 0), 1);
        c = Case.of("many conditions", "module t; reg [7:0] a; initial a = " + "(0?1:2)+".repeat(3000) + "0; endmodule");
        c.run(9, 2).due("a", c.theatre.value(0, 0, 0), 6000 & 255);
        // Flattened as often as 40000 TOKENS let it be.
        String body = "initial a = " + "1+".repeat(190) + "1;";
        c = Case.of("often", "module t;" + many("u x#();", 99) + "endmodule module u; reg [15:0] a; " + body + " endmodule");
        c.run(400, 2);
        for (int v = 0; v < 99; v++) {
            c.due("a of " + v, c.theatre.value(v, 0, 0), 191);
        }
    }

    /** A # stands for the number, ## for a #. */
    private static String many(String one, int times) {
        StringBuilder text = new StringBuilder();
        for (int k = 0; k < times; k++) {
            text.append(one.replace("##", "\u00b6").replace("#", "" + k).replace("\u00b6", "#"));
        }
        return text.toString();
    }

    private static void longLists() {
        Case.of("many labels", "module t; initial case (5) " + "1,".repeat(8000) + "5: $write(\"y\"); endcase endmodule").run(9,
                2).logs("y");
        Case.of("many choices", "module t; initial case (5) " + "1:;".repeat(8000)
                + "5: $write(\"y\"); default: ; endcase endmodule")
                .run(9, 2).logs("y");
        Case.of("many ARGS", "module t; initial $write(" + "1'b1,".repeat(6000) + "\"e\"); endmodule").run(9, 2).count(4, 6001);
        Case c = Case.of("many EVENTS", "module t; reg a, b; initial begin @(" + "a or ".repeat(5000)
                + "negedge b) $write(\"e\"); end endmodule");
        c.run(9, 2);
        c.theatre.set(1, 0, 0, 0);
        c.run(9, 2).logs("e");
        Case.of("a long STRING", "module t; initial $write(\"" + "a\\n".repeat(10000) + "\"); endmodule").run(9, 2).count(4, 20000);
        Case.of("many LEFTS", "module t; reg a; initial begin " + ("{" + "a,".repeat(63) + "a} = 5;").repeat(200)
                + " end endmodule").run(999, 2).is(0, "1");
        Case.of("many STATEMENTS", "module t; initial begin " + ";".repeat(32700) + " end endmodule").run(20000, 0).run(20000,
                2).count(5, 32702);
        Case.of("many elses", "module t; reg a; initial begin " + "if(0);else;".repeat(2900)
                + " a = 1; end endmodule").run(20000, 2).is(0, "1");
        Case.of("full of SPACES", "module t;" + " \t\r\n".repeat(8180) + "endmodule").run(1, 2);
    }

    private static void manyModules() {
        StringBuilder text = new StringBuilder("module t;endmodule");
        for (int k = 0; k < 1040; k++) {
            String name = "" + (char) ('a' + k % 26) + (char) ('a' + k / 26 % 26) + (char) ('a' + k / 676);
            text.append(" module ").append(name).append(";").append(name).append(" x();endmodule");
        }
        Case.of("many MODULES", text.toString()).count(1, 0);
        new Case("many TOPS").faulty(6, 0, many("module m#; endmodule ", 1400));
        new Case("one twice").faulty(2, many("module m#; endmodule ", 1400) + "module \u00a7m0; endmodule");
    }

    private static void manyParameters() {
        Case.of("localparams", "module t; localparam p = 0;" + many("localparam q#=#;", 1500)
                + " initial $write(\"%0d\", q1499); endmodule")
                .run(9, 2).logs("1499");
        String list = many(",parameter q#=p", 1200);
        Case.of("parameters", "module t; u #(.p(7)) x(); endmodule module u #(parameter p = 0" + list
                + "); initial $write(\"%0d\", q1199); endmodule")
                .run(9, 2).logs("7");
        String links = many(",.q#(#)", 800);
        Case.of("links", "module t; u #(.p(7)" + links + ") x(); endmodule module u #(parameter p = 0" + many(",parameter q#=p",
                800)
                + "); initial $write(\"%0d\", q799 + p); endmodule").run(9, 2).logs("806");
        Case.of("of many instances", "module t;" + many("u ##(.p(#)) x#(.a());", 100)
                + "endmodule module u #(parameter p = 0) (input a); "
                + "initial if (p == 99) $write(\"%0d\", p); endmodule").run(999, 2).logs("99");
        // In one another, and forgotten behind each.
        StringBuilder chain = new StringBuilder("module t; u0 x(); endmodule ");
        for (int k = 0; k < 20; k++) {
            chain.append("module u").append(k).append(";").append(many("localparam q#=#;", 60));
            chain.append(k < 19 ? "u" + (k + 1) + " a();" : "").append(" reg [q59:0] r; endmodule ");
        }
        Case.of("in one another", chain.toString()).count(1, 20);
    }

    private static void manyLoops() {
        Case.of("repeats", "module t; integer n; initial begin n = 0; " + "repeat(2)n=n+1;".repeat(2000)
                + " end endmodule").run(20000, 2)
                .is(0, "0".repeat(20) + "111110100000");
        Case.of("waits", "module t; reg a; initial begin a = 1; " + "wait(a);".repeat(3000)
                + "#1 a = 0; end endmodule").run(20000, 2).is(0, "0");
        Case.of("in one another", "module t; integer n; initial begin n = 0; " + "repeat(1)".repeat(38)
                + "n = 1; end endmodule").run(200, 2)
                .is(0, "0".repeat(31) + "1");
    }

    private static void longNames() {
        String name = "n" + "_".repeat(63);
        StringBuilder text = new StringBuilder("module t; u0 " + name + "(); endmodule ");
        for (int k = 0; k < 20; k++) {
            text.append("module u").append(k).append("; ").append(k < 19 ? "u" + (k + 1) + " " + name + "();" : "reg " + name + ";")
                    .append(" endmodule ");
        }
        Case c = Case.of("long NAMES", text.toString());
        c.dueText("NAME", c.name(0), (name + ".").repeat(20) + name);
        c.due("bytes", c.theatre.told(0, 4), 20 * 65 + 64);
    }

    /** As many operands and operators waiting as DEPTH lets there be. */
    private static void openOperands() {
        String one = "0||1&&0|0^0&1==0<0<<1+1*";
        Case.of("brackets", "module t; reg [31:0] a; initial a = " + (one + "(").repeat(40) + "1" + ")".repeat(40)
                + "; endmodule").run(9, 2);
        Case.of("braces", "module t; reg [31:0] a; initial a = " + ("{1'b1," + one.replace("0", "1'b0").replace("1&",
                "1'b1&")).repeat(30) + "1"
                + "}".repeat(30) + "; endmodule").run(9, 2);
        Case.of("signs", "module t; reg [31:0] a; initial a = " + (one + "-(").repeat(20) + "1" + ")".repeat(20)
                + "; endmodule").run(9, 2);
        Case.of("choices", "module t; reg [31:0] a; initial a = " + (one + "1?").repeat(40) + "7" + (":" + one + "2").repeat(40)
                + "; endmodule")
                .run(9, 2);
        Case.of("indices", "module t; reg [31:0] a, b; initial a = " + (one + "b[").repeat(40) + "1" + "]".repeat(40)
                + "; endmodule").run(9, 2);
    }

    /** The last VARIABLES and NETS are read, waited for and driven as the first ones are. */
    private static void farSignals() {
        Case c = Case.of("far", "module t;" + many("reg [63:0] r#;", 390)
                + "reg [63:0] a; wire [63:0] b, d; integer n; reg [3:0] m[0:1]; "
                + "assign b[63:62] = a[1:0]; assign b[61:0] = {a[63:60], a[3:2], 56'd0}; assign d = m[1] + r389[63:60]; "
                + "initial begin n = 0; wait (a[63:60] == 9) n = 1; @(posedge a[0]) n = 2; @(b[58]) n = 3; end endmodule");
        c.run(999, 2);
        c.theatre.set(390, 0, 0x9000000000000006L, 0);
        c.theatre.set(389, 0, 0xf000000000000000L, 0);
        c.theatre.set(394, 1, 3, 0);
        c.run(99, 2).due("n", c.theatre.value(393, 0, 0), 1);
        c.due("b", c.theatre.value(391, 0, 0), 0xa500000000000000L);
        c.due("d", c.theatre.value(392, 0, 0), 18);
        c.theatre.set(390, 0, 0x9000000000000007L, 0);
        c.run(99, 2).due("n", c.theatre.value(393, 0, 0), 2);
    }

    /** Each of 398 VARIABLES wakes the process that waits for it, and no other one, and the ASSIGN that reads it. */
    private static void eachSignal() {
        Case c = Case.of("each", "module t;" + many("reg r#;", 398) + many("initial @(r#) ;", 398) + "endmodule");
        c.run(2000, 2).count(10, 398);
        Case d = Case.of("each of a wait", "module t;" + many("reg r#;", 398) + many("initial wait (r#) ;", 398) + "endmodule");
        d.run(2000, 2).count(10, 398);
        Case e = Case.of("each of a NET", "module t; wire w;" + many("reg r#;", 398)
                + many("assign w = r#;", 398) + "endmodule");
        e.run(2000, 2).count(6, 0);
        for (int v = 0; v < 398; v++) {
            c.theatre.set(v, 0, 1, 0);
            c.count(10, 397 - v).count(6, 1).run(9, 2).count(11, v + 1);
            d.theatre.set(v, 0, 1, 0);
            d.count(10, 397 - v).count(6, 1).run(9, 2).count(11, v + 1);
            e.theatre.set(v + 1, 0, 0, 1);
            e.count(6, 1).run(1, 2).is(0, v < 397 ? "x" : "z");
        }
    }

    /** One TEXT after the other on one object: what an earlier one has used is free again. */
    private static void again() {
        Case c = new Case("again");
        String sum = "module t; reg [31:0] a; initial begin a = " + "1+".repeat(7000) + "1; " + "a[0]=1;".repeat(1000)
                + "repeat(2)a=a+1;".repeat(500)
                + " end endmodule";
        for (int k = 0; k < 8; k++) {
            c.build(sum);
            c.run(20000, 2).due("the sum", c.theatre.value(0, 0, 0), 7001 + 1000);
        }
        Case p = new Case("parameters again");
        for (int k = 0; k < 12; k++) {
            p.build("module t;" + many("localparam q#=#;", 1500) + " reg [q9:0] a; endmodule");
            p.is(0, "x".repeat(10)).faulty(2, "module t;" + many("localparam q#=#;", 1500) + " reg [\u00a7p:0] a; endmodule");
        }
        Case d = new Case("EVENTS again");
        for (int k = 0; k < 4; k++) {
            d.build("module t; reg a; initial repeat (4000) a <= #1 1; endmodule");
            d.run(8002, 0).count(9, 4000).count(8, 0);
            d.build("module t; reg a; initial begin repeat (4000) a <= 1; a = 0; end endmodule");
            d.run(20000, 2).is(0, "1").count(5, 12004);
        }
        Case e = new Case("MEMORIES again");
        for (int k = 0; k < 6; k++) {
            e.build("module t; reg m[0:4095], n[0:4095]; integer i; initial begin m[0] = 1; n[4095] = 0; end endmodule");
            e.is(0, 0, "x").run(9, 2).is(0, 0, "1").is(1, 4095, "0").is(1, 0, "x");
            e.build("module t;" + many("wire w#;", 400) + "endmodule");
            e.is(399, "z").is(0, "z");
        }
        Case g = new Case("loops again");
        for (int k = 0; k < 14; k++) {
            g.build("module t; integer n; initial begin " + "repeat(1);".repeat(3000)
                    + " n = 1; repeat (2) repeat (3) n = n + 1; end endmodule");
            g.run(20000, 2).is(0, "0".repeat(29) + "111");
        }
        Case h = new Case("LEFTS again");
        for (int k = 0; k < 8; k++) {
            h.build("module t; reg a, b; initial begin " + ("{" + "a,".repeat(63) + "a} = 5;").repeat(150)
                    + " {a, b} = 1; end endmodule");
            h.run(999, 2).is(0, "0").is(1, "1");
        }
        Case i = new Case("drivers again");
        for (int k = 0; k < 6; k++) {
            if (k % 3 == 0) {
                i.build("module t; wire [63:0] a, b, c; assign a = -1; assign b = 64'bx; assign c = -1; endmodule");
                i.run(9, 2).is(0, "1".repeat(64));
            } else {
                // Those that have not been worked out yet drive z.
                i.build("module t; wire [63:0] w; assign w = 0; assign w = 0; assign w = 1; endmodule");
                i.run(1, 0).is(0, "0".repeat(64)).run(9, 2).is(0, "0".repeat(63) + "x");
            }
        }
    }

    /** Three TEXTS in turn, and the same answers as on new objects; some are left before their end. */
    private static void inTurn() {
        String[] texts = {
            "module t; wire a, b, c; reg r; assign a = r; assign b = ~r; assign c = a; initial begin r = 0; #1 r <= 1; #1 r = 0; end "
                + "always @(b) $write(\"b\"); endmodule",
            "module t; reg r, a, b; wire c; reg [3:0] m[0:3]; assign c = m[a]; initial begin a = 0; m[0] <= #1 5; wait (c) b = 1; @(r) ; end "
                + "always #2 a = ~a; endmodule",
            "module t; wire [3:0] a; reg b, r; integer c; u x(.p(b), .q(a)); initial for (c = 0; c < 9; c = c + 1) b <= #c c; always @* r = b; endmodule "
                + "module u(input p, output [3:0] q); assign q[1:0] = {2{p}}; assign q[2] = ~p; endmodule"};
        Case c = new Case("in turn");
        for (int k = 0; k < 24; k++) {
            c.build(texts[k % 3]);
            Case other = Case.of("alone", texts[k % 3]);
            c.dueText("at first", c.circuit(), other.circuit());
            for (int n = 1; n < 30 + k; n += 5) {
                other.run(n, c.theatre.run(n));
                c.dueText("as alone", c.circuit(), other.circuit());
                int reg = k % 3 == 0 ? 3 : 1;
                c.theatre.set(reg, 0, n & 1, 0);
                other.theatre.set(reg, 0, n & 1, 0);
            }
        }
    }

    /** Changed texts, the same ones each time: nothing else than a FAULT is thrown, and its PLACE is in the TEXT. */
    private static void oddTexts() {
        String[] texts = {
            "module t; wire [3:0] w; reg [7:0] a, m[0:3]; integer i; u #(.P(2), .Q()) x(.i(a), .o({w[0], w[3:1]})); assign w = a[3:0] + ~w; "
                + "initial begin for (i = 0; i < 4; i = i + 1) m[i] = i * 3; a <= #2 m[1]; wait (a === 3) $display(\"%d %0h\\n\", a, w); "
                + "case (a) 1, 2: a = 4; default: ; endcase casez (a) 4'b1??0: ; endcase repeat (3) @(posedge a[0] or w) ; $finish; end "
                + "always @* if (w > 2) a[i] = #1 1'bz; else {a[1:0], i} <= {2{w}}; endmodule "
                + "module u #(parameter P = 1, parameter Q = P * 2) (input signed [P:0] i, output reg [3:0] o); localparam R = Q; "
                + "always #R o = $signed(i) >>> 1; initial while (1) forever begin #1 ; end endmodule"};
        String bytes = "abtuwxi01239'\"()[]{};:,.#@*/%+-<>=!~&|^? \n\\$_zx\u0000\u0080";
        Random random = new Random(7);
        Case c = null;
        for (int k = 0; k < 4000; k++) {
            c = k % 40 == 0 ? new Case("odd texts") : c;
            StringBuilder text = new StringBuilder(texts[k % texts.length]);
            for (int change = random.nextInt(3); change >= 0; change--) {
                int at = random.nextInt(text.length());
                int other = random.nextInt(text.length());
                switch (random.nextInt(4)) {
                    case 0:
                        text.deleteCharAt(at);
                        break;
                    case 1:
                        text.insert(at, bytes.charAt(random.nextInt(bytes.length())));
                        break;
                    case 2:
                        text.setCharAt(at, bytes.charAt(random.nextInt(bytes.length())));
                        break;
                    default:
                        text.insert(at, text.substring(other, Math.min(text.length(), other + random.nextInt(30))));
                        break;
                }
            }
            oddText(c, text.toString());
        }
    }

    private static void oddText(Case c, String text) {
        c.feed(text);
        int signals = c.theatre.count(1);
        try {
            c.theatre.build();
        } catch (IllegalStateException e) {
            int number = c.theatre.fault(0);
            int place = c.theatre.fault(1);
            c.due("a FAULT of [" + text + "]", number >= 1 && number <= 6 ? 1 : 0, 1);
            c.due("THE PLACE in [" + text + "]", place >= 0 && place <= text.length() ? 1 : 0, 1);
            c.count(1, signals);
            return;
        }
        int before = 0;
        for (int n = 1; n < 2000; n *= 7) {
            int answer = c.theatre.run(n);
            int cost = c.theatre.count(5);
            c.due("what was paid", answer == 0 ? cost - before : Math.min(cost - before, n), answer == 0 ? n : cost - before);
            before = cost;
        }
    }
}
