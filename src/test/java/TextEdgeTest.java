/** Edges of TEXT: what may be left out and what not, words that are no NAMES, DEPTH, INPUT's length. */
public final class TextEdgeTest {
    /** Every form of the grammar, with a space between all TOKENS. */
    private static final String ALL = "module t # ( parameter P = 1 , parameter Q = P + 2 ) ( input a , output wire "
            + "signed [ 3 : 0 ] b , output reg c , input wire d ) ; wire e ; wand signed [ 1 : 0 ] f , g ; wor h ; "
            + "reg [ 7 : 0 ] i , j [ 3 : 0 ] , k ; integer l , m ; localparam R = Q ; assign e = a ; "
            + "assign { f , g [ 0 ] , { g [ 1 : 1 ] } } = i [ 1 ] + j [ 2 ] - i [ 3 : 1 ] ; u v ( ) ; "
            + "u # ( . N ( 2 ) , . O ( ) ) w ( . x ( a ? 1 : 2 ) , . y ( ) ) ; initial ; always begin # 1 ; end "
            + "initial begin i = # 1 2 ; i <= # ( 1 ) 2 ; i = @ ( posedge a or negedge b [ 1 ] or c ) ~ 1 ; "
            + "# i ; @ ( a ) ; @ * ; wait ( 1 ) ; if ( a ) ; else if ( a ) ; else ; case ( a ) 1 , 2 : ; default : "
            + "; 3 : ; endcase casez ( a ) 1 : begin end endcase for ( l = 0 ; l < 2 ; l = l + 1 ) ; while ( 0 ) ; "
            + "repeat ( 2 ) ; forever begin # 1 ; $finish ; end $display ; $write ( \"a\" , a , \"b\" ) ; $display ( a ) ; "
            + "{ i , k [ 1 ] , k [ 2 : 1 ] } <= { 2 { i , 1'b1 } } + { 1 { 2 } } + { 3 } + $time + $signed ( 1 ) + "
            + "$unsigned ( - + ! ~ & ~& | ~| ^ ~^ 1 ) ; i = 1 || 2 && 3 | 4 ^ 5 ~^ 6 & 7 == 8 != 9 === 1 !== 2 < 3 <= "
            + "4 > 5 >= 6 << 7 >> 8 <<< 9 >>> 1 + 2 - 3 * 4 / 5 % 6 ; end endmodule module u # ( parameter N = 1 , "
            + "parameter O = 1 ) ( input x , output y ) ; endmodule";

    private static final String[] WORDS = {"module", "parameter", "endmodule", "input", "output", "wire", "wand", "wor",
        "reg", "signed", "integer", "localparam", "assign", "initial", "always", "begin", "end", "wait", "if", "else",
        "case", "casez", "default", "endcase", "for", "while", "repeat", "forever", "or", "posedge", "negedge"};

    public static void main(String[] args) {
        wholeText();
        words();
        lists();
        statements();
        elses();
        depths();
        mixedDepth();
        Case.close();
    }

    /** "no right TEXT could go on .. or INPUT's length": each beginning of a right TEXT can go on. */
    private static void wholeText() {
        Case.of("every form", ALL).run(9, 0);
        int last = ALL.indexOf("endmodule ") + 9;
        Case c = new Case("beginnings");
        for (int at = ALL.indexOf(' '); at >= 0 && at < ALL.length(); at = ALL.indexOf(' ', at + 1)) {
            String start = ALL.substring(0, at);
            c = at % 32 == 0 ? new Case("beginnings") : c;
            if (at == last) {
                // A TEXT in itself, in which u is not known.
                c.faulty(2, ALL.indexOf("u v ("), start);
            } else {
                c.faulty(1, at, start).faulty(1, at + 1, start + " ");
            }
            // With these nothing can go on, wherever they stand.
            c.faulty(1, at, start + "$nothing" + ALL.substring(at));
            c.faulty(1, at + 1, start + "\n\\" + ALL.substring(at));
        }
        c.faulty(1, ALL.length() + 9, ALL + " module u").faulty(1, ALL.length() + 1, ALL + " endmodule");
    }

    /** "The words in ' ' of letters are no NAMES." */
    private static void words() {
        for (String word : WORDS) {
            Case c = new Case(word);
            c.faulty(1, "module t; integer a, \u00a7" + word + "; endmodule");
            if (!word.equals("module")) {
                c.faulty(1, "module \u00a7" + word + "; endmodule");
            }
            c.faulty(1, "module t; reg a; initial a = 1 + \u00a7" + word + "; endmodule");
            c.faulty(1, "module t; u \u00a7" + word + "(); endmodule module u; endmodule");
            String capital = word.substring(0, 1).toUpperCase() + word.substring(1);
            c.build("module " + capital + "; reg " + word + "_, " + capital + "; initial " + capital + " = 1; endmodule");
            c.run(9, 2).is(1, "1");
        }
        Case.of("no words", "module s; reg b, o, d, h, x, z, endcasez, elseif, display, time; endmodule").count(1, 10);
    }

    /** One or more, none or more, one or none. */
    private static void lists() {
        Case.edge("MODULE, one or more", 1, "module t; endmodule", " \u00a7");
        Case.edge("ITEM*", 1, "module t; endmodule", "module t; \u00a7; endmodule");
        Case.edge("no ports", 1, "module t; endmodule", "module t(\u00a7); endmodule");
        Case.edge("PORT", 1, "module t(input a); endmodule", "module t(input a \u00a7b); endmodule");
        Case.edge("each PORT its way", 1, "module t(input a, input b); endmodule", "module t(input a, \u00a7b); endmodule");
        Case.edge("PORT's kind", 1, "module t(output wire a); endmodule", "module t(output \u00a7wand a); endmodule");
        Case.edge("PORT's order", 1, "module t(output reg signed [1:0] a); endmodule",
                "module t(output signed \u00a7reg a); endmodule");
        Case.edge("PORT is no MEMORY", 1, "module t(output reg a); endmodule", "module t(output reg a\u00a7[1:0]); endmodule");
        Case.edge("parameters", 1, "module t #(parameter P = 1); endmodule", "module t #(\u00a7); endmodule");
        Case.edge("parameters before ports", 1, "module t #(parameter P = 1) (input a); endmodule",
                "module t(input a) \u00a7#(parameter P = 1); endmodule");
        Case.edge("each parameter its word", 1, "module t #(parameter P = 1, parameter Q = 2); endmodule",
                "module t #(parameter P = 1, \u00a7Q = 2); endmodule");
        Case.edge("RANGE", 1, "module t; reg [1:0] a; endmodule", "module t; reg [1\u00a7] a; endmodule");
        Case.edge("one RANGE", 1, "module t; reg [1:0] a[1:0]; endmodule", "module t; reg [1:0]\u00a7[1:0] a; endmodule");
        Case.edge("one RANGE behind", 1, "module t; reg a[1:0]; endmodule", "module t; reg a[1:0]\u00a7[1:0]; endmodule");
        Case.edge("signed before", 1, "module t; reg signed [1:0] a; endmodule", "module t; reg [1:0] \u00a7signed a; endmodule");
        Case.edge("integer", 1, "module t; integer a, b; endmodule", "module t; integer \u00a7signed a; endmodule");
        Case.edge("no MEMORY of integers", 1, "module t; integer a; endmodule", "module t; integer a\u00a7[1:0]; endmodule");
        Case.edge("one localparam", 1, "module t; localparam P = 1; endmodule",
                "module t; localparam P = 1\u00a7, Q = 2; endmodule");
        Case.edge("one assign", 1, "module t; wire a; assign a = 1; endmodule",
                "module t; wire a; assign a = 1\u00a7, a = 2; endmodule");
        Case.edge("no value there", 1, "module t; wire a; endmodule", "module t; wire a \u00a7= 1; endmodule");
        String inner = " module u #(parameter P = 1) (input a); endmodule";
        Case.edge("no links", 1, "module t; u x(); endmodule" + inner, "module t; u x\u00a7; endmodule" + inner);
        Case.edge("empty links", 1, "module t; u #(.P()) x(.a()); endmodule" + inner, "module t; u x(.a\u00a7); endmodule" + inner);
        Case.edge("parameter links", 1, "module t; u #(.P(1)) x(); endmodule" + inner, "module t; u #(\u00a7) x(); endmodule"
                + inner);
        Case.edge("links have NAMES", 1, "module t; u #(.P(1)) x(); endmodule" + inner, "module t; u #(\u00a71) x(); endmodule"
                + inner);
        Case.edge("a , less", 1, "module t; u x(.a()); endmodule" + inner, "module t; u x(.a(), \u00a7); endmodule" + inner);
        Case.edge("one instance", 1, "module t; u x(); u y(); endmodule" + inner, "module t; u x()\u00a7, y(); endmodule" + inner);
    }

    private static void statement(String right, String wrongMarked) {
        String start = "module t; reg a; reg [3:0] b; integer i; initial ";
        Case.edge(right, 1, start + right + " endmodule", start + wrongMarked + "endmodule");
    }

    private static void statements() {
        statement("begin end", "begin \u00a7");
        statement("a = 1;", "a \u00a7== 1;");
        statement("{a} = 1;", "{\u00a7} = 1;");
        statement("{a, b} = 1;", "{a, \u00a71} = 1;");
        statement("b[1:0] = 1;", "b[1:0\u00a7:1] = 1;");
        statement("a = #1 1;", "a = #\u00a7~1 1;");
        statement("a = #(1) 1;", "a = #1 \u00a7;");
        statement("a = @(a) 1;", "a = @\u00a7a 1;");
        statement("a <= #1 1;", "a <= #1 \u00a7#1 1;");
        statement("#1 ;", "#1 \u00a7");
        statement("#i a = 1;", "#i\u00a7. ");
        statement("#{1'b1, 1'b0} ;", "#{1'b1, \u00a7} ;");
        statement("@(a) ;", "@(\u00a7) ;");
        statement("@(a or a) ;", "@(a\u00a7, a) ;");
        statement("@(posedge a) ;", "@(posedge \u00a7posedge a) ;");
        statement("@(a[0]) ;", "@(a[0\u00a7:0]) ;");
        statement("@* ;", "@(\u00a7*) ;");
        statement("wait (1) ;", "wait \u00a71 ;");
        statement("if (1) ;", "if (\u00a7) ;");
        statement("case (1) 1: ; endcase", "case (1) \u00a7endcase ");
        statement("case (1) 1, 2: ; endcase", "case (1) 1, \u00a7default: ; endcase");
        statement("case (1) default: ; endcase", "case (1) default\u00a7; endcase");
        statement("case (1) default: ; default: ; endcase", "case (1) default: \u00a7default: ; endcase");
        statement("case (1) 1: ; endcase", "case (1) 1: \u00a7endcase ");
        statement("case (1) 1 ? 2 : 3: ; endcase", "case (1) 1 ? 2 : \u00a7; endcase");
        statement("for (i = 0; 0; i = 1) ;", "for (\u00a7; 0; i = 1) ;");
        statement("for (i = 0; 0; i = 1) ;", "for (i = 0; \u00a7; i = 1) ;");
        statement("for (i = 0; 0; i = 1) ;", "for (i = 0; 0; \u00a7) ;");
        statement("for (i = 0; 0; i = 1) ;", "for (i \u00a7<= 0; 0; i = 1) ;");
        statement("for (i = 0; 0; i = 1) ;", "for (\u00a7{i} = 0; 0; i = 1) ;");
        statement("while (0) ;", "while (0) \u00a7");
        statement("repeat (0) ;", "repeat \u00a7;");
        statement("forever #1 ;", "forever \u00a7end ");
        statement("$display;", "$display(\u00a7);");
        statement("$write(1);", "$write(1, \u00a7);");
        statement("$write(\"a\");", "$write(\"a\" \u00a7\"b\");");
        statement("$write(\"a\");", "$write(\"a\" \u00a7+ 1);");
        statement("$write(1);", "$write(1 + \u00a7\"a\");");
        statement("$finish;", "$finish\u00a7(1);");
        statement("a = $time;", "a = $time\u00a7();");
        statement("a = $signed(1);", "a = $signed \u00a71;");
        statement("a = $unsigned(1);", "a = $unsigned(1\u00a7, 2);");
        statement("a = {1'b1};", "a = {\u00a7};");
        statement("a = {2{1'b1}};", "a = {2{\u00a7}};");
        statement("a = {2{1'b1, 1'b0}};", "a = {2{1'b1}\u00a7{1'b0}};");
        statement("a = b[1:0];", "a = b[1:0]\u00a7[0];");
        statement("a = (1);", "a = (1)\u00a7[0];");
        statement("a = (1);", "a = (\u00a7);");
        statement("a = 1 ? 2 : 3;", "a = 1 ? 2 \u00a7;");
        statement("a = 1 ? 2 ? 3 : 4 : 5;", "a = 1 ? 2 : 3 \u00a7: 4;");
        statement("a = - - 1;", "a = -\u00a7;");
        statement("a = -1 * -1;", "a = 1 * \u00a7* 1;");
    }

    /** "An else belongs to the nearest if." */
    private static void elses() {
        String[][] pairs = {{"if (0) if (1) $write(1'b0); else $write(1'b1);", ""},
            {"if (1) if (0) $write(1'b0); else $write(1'b1);", "1"},
            {"if (0) begin if (1) $write(1'b0); end else $write(1'b1);", "1"},
            {"if (1) if (0) ; else if (0) ; else $write(1'b1);", "1"},
            {"if (0) if (1) ; else ; else $write(1'b1);", "1"},
            {"if (1) while (0) if (1) ; else $write(1'b0); else $write(1'b1);", ""}};
        for (String[] pair : pairs) {
            Case.of(pair[0], "module t; initial " + pair[0] + " endmodule").run(20, 2).logs(pair[1]);
        }
        new Case("one else").faulty(1, "module t; initial if (1) ; else ; \u00a7else ; endmodule");
    }

    /** "DEPTH of a TOKEN: how many ( [ { .. before it aren't closed before it, .. at most 40." */
    private static void depths() {
        String start = "module t; reg [1:0] a; initial a = ";
        Case.edge("( not closed before it", 1, start + "(".repeat(40) + "1" + ")".repeat(40) + "; endmodule",
                start + "(".repeat(41) + "\u00a71" + ")".repeat(41) + "; endmodule");
        Case.edge("( closed before it", 1, start + "(1)+".repeat(60) + "1; endmodule",
                start + "(1)+".repeat(60) + "(".repeat(41) + "\u00a71");
        // The TOKENS that close are in them still.
        Case.edge("the 40th ) itself", 1, "module t; u x" + "(.a(" + "(".repeat(38) + "1" + ")".repeat(38) + ")); endmodule "
                + "module u(input a); endmodule", "module t; u x" + "(.a(" + "(".repeat(39) + "\u00a71");
        Case.edge("a RANGE's [", 1, "module t; reg [" + "(".repeat(39) + "1" + ")".repeat(39) + ":0] a; endmodule",
                "module t; reg [" + "(".repeat(40) + "\u00a71" + ")".repeat(40) + ":0] a; endmodule");
        Case.edge("parameters' (", 1, "module t #(parameter P = " + "(".repeat(39) + "1" + ")".repeat(39) + "); endmodule",
                "module t #(parameter P = " + "(".repeat(40) + "\u00a71" + ")".repeat(40) + "); endmodule");
        Case.edge("links' (", 1, "module t; u x(.a(" + "(".repeat(38) + "1" + ")".repeat(38) + ")); endmodule "
                + "module u(input a); endmodule", "module t; u x(.a(" + "(".repeat(39) + "\u00a71");
        Case.edge("UNARY signs", 1, start + "~".repeat(40) + "1; endmodule", start + "~".repeat(41) + "\u00a71; endmodule");
        Case.edge("UNARY that is over", 1, start + "~1+".repeat(60) + "~".repeat(40) + "1; endmodule",
                start + "~1+".repeat(60) + "~".repeat(41) + "\u00a71; endmodule");
        Case.edge("UNARY over its PRIMARY", 1, start + "~".repeat(39) + "(1) + " + "~".repeat(40) + "1; endmodule",
                start + "~".repeat(39) + "((\u00a71)); endmodule");
        Case.edge("?", 1, start + "1?".repeat(40) + "1" + ":1".repeat(40) + "; endmodule", start + "1?".repeat(41) + "\u00a71");
        Case.edge("? whose CHOICE isn't over", 1, start + "1?1:".repeat(40) + "1; endmodule",
                start + "1?1:".repeat(40) + "1?\u00a71:1; endmodule");
        Case.edge("? whose CHOICE is over", 1, start + "(1?1:1)+".repeat(60) + "1; endmodule",
                start + "(1?1:1)+".repeat(60) + "1?1:".repeat(40) + "1?\u00a71:1; endmodule");
        Case.edge("STATEMENTS in others", 1, "module t; initial " + "#1 ".repeat(40) + "; endmodule",
                "module t; initial " + "#1 ".repeat(41) + "\u00a7; endmodule");
        Case.edge("begin", 1, "module t; initial " + "begin ".repeat(20) + ";" + "end ".repeat(20) + "endmodule",
                "module t; initial " + "begin ".repeat(20) + "begin \u00a7;");
        Case.edge("case", 1, "module t; initial " + "case (1) 1: ".repeat(20) + ";" + "endcase ".repeat(20) + "endmodule",
                "module t; initial " + "case (1) 1: ".repeat(20) + "case \u00a7(1)");
        Case.edge("casez", 1, "module t; initial " + "casez (1) 1: ".repeat(20) + ";" + "endcase ".repeat(20) + "endmodule",
                "module t; initial " + "casez (1) 1: ".repeat(20) + "casez \u00a7(1)");
    }

    /** All kinds of it are counted together. */
    private static void mixedDepth() {
        // 2 for begin, 2 for if's (, 1 for the STATEMENT in it, 1 for a [, 1 for a -, 1 for a ?, 1 for a {.
        String start = "module t; reg [1:0] a; initial begin if (1) a[-(1 ? {";
        int used = 1 + 1 + 1 + 1 + 1 + 1 + 1 + 1;
        Case.edge("all together", 1, start + "(".repeat(40 - used) + "1" + ")".repeat(40 - used) + "} : 1)] = 1; end endmodule",
                start + "(".repeat(41 - used) + "\u00a71");
        String display = "module t; initial begin forever begin $display(\"a\", ";
        Case.edge("in $display", 1, display + "(".repeat(34) + "1" + ")".repeat(34) + "); #1 ; end end endmodule",
                display + "(".repeat(35) + "\u00a71");
        String closed = "module t; initial begin begin end begin if (1) ; else ; end case (1) 1: begin end endcase ";
        Case.edge("what is closed", 1, closed + "#1 ".repeat(38) + "; end endmodule", closed + "#1 ".repeat(39)
                + "\u00a7; end endmodule");
    }
}
