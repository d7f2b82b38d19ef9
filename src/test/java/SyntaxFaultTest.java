/** Promise 5: SYNTAX, its PLACE and DEPTH; the mark stands before the TOKEN that is wrong. */
public final class SyntaxFaultTest {
    public static void main(String[] args) {
        Case c = new Case("syntax");
        for (String text : TEXTS) {
            c.faulty(1, text);
        }
        c.faulty(1, 14, "module t; reg ");
        c.faulty(1, 21, "module t; endmodule \"").build("module t; endmodule /* x */ // y");
        c.faulty(1, 22, "module t; endmodule /*");
        c.faulty(1, 23, "module t; endmodule /*/");
        c.faulty(1, 20, "module t; endmodule \u00ff\u00ff");
        tokens(c);
        depth(c);
        Case.close();
    }

    private static final String[] TEXTS = {
        "\u00a7reg a;", "module \u00a7reg; endmodule", "module t \u00a7endmodule",
        "module t(\u00a7); endmodule", "module t(\u00a7reg a); endmodule",
        "module t(input a,\u00a7); endmodule", "module t #(\u00a7A = 1); endmodule",
        "module t #(parameter A = 1, \u00a7B = 2); endmodule",
        "module t; wire [3\u00a7] a; endmodule", "module t; integer \u00a7[3:0] a; endmodule",
        "module t; reg a, \u00a7; endmodule", "module t; assign a \u00a7<= 1; endmodule",
        "module t; initial \u00a7endmodule", "module t; initial begin a = 1; \u00a7endmodule",
        "module t; initial a = 1 \u00a7endmodule", "module t; initial a = \u00a7; endmodule",
        "module t; initial a = b ? \u00a7; endmodule",
        "module t; initial a = b ? c \u00a7; endmodule",
        "module t; initial a[1:\u00a7] = 1; endmodule", "module t; initial {a, \u00a7} = 1; endmodule",
        "module t; initial {\u00a71} = 1; endmodule", "module t; initial \u00a7(",
        "module t; initial @(\u00a7*) ; endmodule", "module t; initial @(posedge \u00a7[1]) ; endmodule",
        "module t; initial a = @\u00a7* 1; endmodule", "module t; initial # \u00a7-1 ; endmodule",
        "module t; initial if \u00a7a",
        "module t; initial if (a) ; else ; \u00a7else ; endmodule",
        "module t; initial case (a) \u00a7endcase endmodule",
        "module t; initial case (a) default \u00a7; endcase endmodule",
        "module t; initial case (a) 1, \u00a7: ; endcase endmodule",
        "module t; initial for (i \u00a7<= 0; i; i = 1) ; endmodule",
        "module t; initial for (i = 0; i; i\u00a7[0] = 1) ; endmodule",
        "module t; initial $display(\u00a7); endmodule", "module t; initial $finish\u00a7(); endmodule",
        "module t; initial \u00a7$time; endmodule", "module t; initial \u00a7$nothing; endmodule",
        "module t; u x\u00a7; endmodule", "module t; u x(\u00a7a); endmodule",
        "module t; u x(.a\u00a7, .b()); endmodule", "module t; u #(\u00a7) x(); endmodule",
        "module t; initial a = b \u00a7b; endmodule", "module t; initial a = {2{b}\u00a7, c}; endmodule",
        "module t; initial a = b === \u00a7= c; endmodule", "module t; initial a = m[1]\u00a7[0]; endmodule",
        "module t; endmodule \u00a7x", "module t; endmodule \u00a7; module u; endmodule",
        "module t; reg \u00a7$x; endmodule",
    };

    private static void tokens(Case c) {
        String name64 = "n234567890123456789012345678901234567890123456789012345678901234";
        c.build("module t; reg " + name64 + "; endmodule");
        c.faulty(1, "module t; reg " + name64 + "\u00a7x; endmodule");
        c.faulty(1, "module t; localparam a = 214748364\u00a78; endmodule");
        c.faulty(1, "module t; localparam a = 0\u00a7'b1; endmodule");
        c.faulty(1, "module t; localparam a = 65\u00a7'b1; endmodule");
        c.faulty(1, "module t; localparam a = 8 \u00a7'b1; endmodule");
        c.faulty(1, "module t; localparam a = 8'\u00a7 b1; endmodule");
        c.faulty(1, "module t; localparam a = 8's\u00a7x; endmodule");
        c.faulty(1, "module t; localparam a = 8'b\u00a72; endmodule");
        c.faulty(1, "module t; localparam a = 8'b1\u00a72; endmodule");
        c.faulty(1, "module t; localparam a = 8'o\u00a7_1; endmodule");
        c.faulty(1, "module t; localparam a = 8'dx\u00a71; endmodule");
        c.faulty(1, "module t; localparam a = 64'd1844674407370955161\u00a76; endmodule");
        c.faulty(1, "module t; localparam a = $\u00a71; endmodule");
        c.faulty(1, "module t; initial $display(\"a\u00a7\n\"); endmodule");
        c.faulty(1, "module t; initial $display(\"a\u00a7\t");
        c.faulty(1, "module t; initial $display(\"a\u00a7\u007f\"); endmodule");
        c.faulty(1, 29, "module t; initial $display(\"\\");
        c.faulty(1, "module t; \u00a7`a endmodule");
        c.faulty(1, "module t; \u00a7\\a endmodule");
        c.build("module t; reg a; initial #5a=1; endmodule");
        c.build("module\tt\r\n;//x\nreg/**/a;/* * / **/endmodule//");
        c.build("module t; reg a; initial a=a<=-a&&&a|||a~^~a&~&a; endmodule");
    }

    private static void depth(Case c) {
        deep(c, "(", "(\u00a7", ")", 40);
        deep(c, "{", "{\u00a7", "}", 40);
        deep(c, "-", "-\u00a7", "", 40);
        deep(c, "a?", "a?\u00a7", ":1", 40);
        deep(c, "a?1:", "a?\u00a71:", "", 40);
        deep(c, "a[", "a[\u00a7", "]", 40);
        deep(c, "$signed(", "$signed(\u00a7", ")", 40);
        deep(c, "{1{", "{\u00a71{", "}}", 20);
        deep(c, "a||a&&a|a^a&a==a<a<<a+a*(", "a||a&&a|a^a&a==a<a<<a+a*(\u00a7", ")", 40);
        // The mark stands where the forty-first is too deep already.
        String[] inner = {"#1 ", "@(\u00a7a) ", "@* ", "wait(\u00a71) ", "if (\u00a7a) ",
            "if (\u00a7a) ; else ", "for (\u00a7a=1;a;a=1) ", "while (\u00a7a) ", "repeat (\u00a71) ",
            "forever "};
        for (String marked : inner) {
            String start = "module t; reg a; initial ";
            String one = marked.replace("\u00a7", "");
            c.build(start + one.repeat(40) + "; endmodule");
            String last = marked.equals(one) ? one + "\u00a7" : marked;
            c.faulty(1, start + one.repeat(40) + last + "; endmodule");
        }
        c.build("module t; initial " + "begin ".repeat(20) + ";" + "end ".repeat(20) + " endmodule");
        c.faulty(1, "module t; initial " + "begin ".repeat(21) + "\u00a7;" + "end ".repeat(21) + " endmodule");
        c.faulty(1, "module t; initial " + "begin ".repeat(21) + "\u00a7end " + "end ".repeat(20) + " endmodule");
        c.build("module t; initial " + "case (1) 1: ".repeat(20) + ";" + "endcase ".repeat(20) + " endmodule");
        c.faulty(1, "module t; initial " + "case (1) 1: ".repeat(20) + "case \u00a7(1) 1: ;"
                + "endcase ".repeat(21) + " endmodule");
        c.build("module t; reg a; initial " + "{".repeat(40) + "a" + "}".repeat(40) + " = 1; endmodule");
        c.faulty(1, "module t; reg a; initial " + "{".repeat(41) + "\u00a7a" + "}".repeat(41) + " = 1; endmodule");
        c.build("module t; reg a; initial a = " + "-1+(".repeat(40) + "1" + ")".repeat(40) + "; endmodule");
    }

    /** A form can stand in itself so often; one more is wrong at its mark. */
    private static void deep(Case c, String before, String marked, String after, int most) {
        String start = "module t; reg [1:0] a; initial a = " + before.repeat(most);
        c.build(start + "1" + after.repeat(most) + "; endmodule");
        c.faulty(1, start + marked + "1" + after.repeat(most + 1) + "; endmodule");
    }
}
