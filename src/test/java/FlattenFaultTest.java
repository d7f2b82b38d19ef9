/** Promise 5: the FAULTS 2 to 6 and their order; the mark stands at THE PLACE. */
public final class FlattenFaultTest {
    public static void main(String[] args) {
        Case c = new Case("flattening");
        for (String text : UNKNOWN) {
            c.faulty(2, text);
        }
        for (String text : WRONG_KIND) {
            c.faulty(3, text);
        }
        for (String text : OUT_OF_RANGE) {
            c.faulty(4, text);
        }
        for (String text : GOOD) {
            c.build(text);
        }
        tops(c);
        tooMuch(c);
        Case.close();
    }

    private static final String[] UNKNOWN = {
        "module t; initial \u00a7a = b; reg a; endmodule",
        "module t; reg a; initial a = 1 + \u00a7b; endmodule",
        "module t; reg a, \u00a7a; endmodule",
        "module t; reg a; integer \u00a7a; endmodule",
        "module t; localparam a = \u00a7a; endmodule",
        "module t; localparam a = 1; localparam \u00a7a = 1; endmodule",
        "module t #(parameter P = 1, parameter \u00a7P = 2); endmodule",
        "module t #(parameter P = \u00a7Q, parameter Q = 2); endmodule",
        "module t #(parameter P = 1) (input \u00a7P); endmodule",
        "module t(input a, output \u00a7a); endmodule",
        "module t; reg a[\u00a7a:0]; endmodule",
        "module t; \u00a7u x(); endmodule",
        "module t; u x(); u \u00a7x(); endmodule module u; endmodule",
        "module t; reg x; u \u00a7x(); endmodule module u; endmodule",
        "module t; wire w; u x(.\u00a7b(w)); endmodule module u(input a); endmodule",
        "module t; wire w; u x(.a(w), .\u00a7a(w)); endmodule module u(input a); endmodule",
        "module t; wire w; u x(.a(), .\u00a7a(w)); endmodule module u(input a); endmodule",
        "module t; wire w; u x(.\u00a7P(w)); endmodule module u #(parameter P = 1) (input a); endmodule",
        "module t; u #(.\u00a7Q(1)) x(); endmodule module u #(parameter P = 1); endmodule",
        "module t; u #(.P(1), .\u00a7P(2)) x(); endmodule module u #(parameter P = 1); endmodule",
        "module t; u x(.a(\u00a7w)); endmodule module u(input a); endmodule",
        "module t; u x(.a(\u00a7w + 1)); endmodule module u(output a); endmodule",
        "module t; u x(); endmodule module u; localparam L = \u00a7q; endmodule",
        "module t; endmodule module \u00a7t; endmodule",
        "module t; reg a; always @(a or posedge \u00a7b) ; endmodule",
        "module t; reg a; initial $display(\"%d\", \u00a7b); endmodule",
        // The first ITEM counts, and in it the least PLACE.
        "module t; reg a; initial \u00a7b = 1; reg a; endmodule",
        "module t; wire w; initial begin \u00a7b = 1; w = 1; end endmodule",
        "module t; reg a; u #(.P(\u00a7b)) x(); endmodule module u #(parameter P = c); endmodule",
        "module t; u x(.a(\u00a7b)); endmodule module u(input a); assign d = 1; endmodule",
        // A NAME of an instance is known before its parameters are looked at.
        "module t; reg x; u #(.P(b)) \u00a7x(); endmodule module u #(parameter P = 1); endmodule",
        "module t; reg a; initial a = {60'd1, \u00a7b, 10'd1}; endmodule",
    };

    private static final String[] WRONG_KIND = {
        "module t; wire w; initial \u00a7w = 1; endmodule",
        "module t; reg r; assign \u00a7r = 1; endmodule",
        "module t; localparam P = 1; initial \u00a7P = 1; endmodule",
        "module t; reg a, m[3:0]; initial a = 1 + \u00a7m; endmodule",
        "module t; reg a, m[3:0]; initial a = \u00a7m[1:0]; endmodule",
        "module t; reg m[3:0]; initial \u00a7m = 1; endmodule",
        "module t; reg m[3:0]; initial \u00a7m[1:0] = 1; endmodule",
        "module t; reg m[3:0]; initial @(\u00a7m) ; endmodule",
        "module t; reg m[3:0]; initial @(\u00a7m[1]) ; endmodule",
        "module t; wire i; initial for (\u00a7i = 0; i < 2; i = i + 1) ; endmodule",
        "module t; integer i; wire j; initial for (i = 0; i < 2; \u00a7j = 1) ; endmodule",
        "module t; reg a; wire [\u00a71 + a:0] w; endmodule",
        "module t; localparam P = \u00a7$time; endmodule",
        "module t; reg a; wire w; assign w[\u00a7a] = 1; endmodule",
        "module t; reg [3:0] a, b; initial a = b[\u00a7a:0]; endmodule",
        "module t; reg a; initial a = {\u00a7a{1'b1}}; endmodule",
        "module t; reg a; initial @(a[\u00a7a]) ; endmodule",
        "module t(input reg \u00a7a); endmodule",
        "module t; reg a; u #(.P(\u00a7a)) x(); endmodule module u #(parameter P = 1); endmodule",
        "module t; reg a; u x(.a(\u00a7a)); endmodule module u(output a); endmodule",
        "module t; wire w; u x(.a(\u00a7w + 1)); endmodule module u(output a); endmodule",
        "module t; wire w; u x(.a(\u00a7(w))); endmodule module u(output a); endmodule",
        "module t; wire w; u x(.a(\u00a7{2{w}})); endmodule module u(output a); endmodule",
        "module t; wire w; u x(.a({w, \u00a71})); endmodule module u(output a); endmodule",
        "module t; wire w; u x(.a({w, \u00a7w + q})); endmodule module u(output a); endmodule",
        "module t; wire w; integer i; u x(.a(w[\u00a7i])); endmodule module u(output a); endmodule",
        "module t; reg a; initial a <= \u00a7@(a) 1; endmodule",
        "module t; wire \u00a7w[3:0]; endmodule",
        "module t; u x(); reg a; initial a = \u00a7x; endmodule module u; endmodule",
    };

    private static final String[] OUT_OF_RANGE = {
        "module t; reg [\u00a70:1] a; endmodule",
        "module t; reg [\u00a764:0] a; endmodule",
        "module t; reg [\u00a71'bx:0] a; endmodule",
        "module t; reg [3:\u00a71'bz] a; endmodule",
        "module t; reg [\u00a733'h0ffffffff:0] a; endmodule",
        "module t; reg [3:0] m[\u00a70:4096]; endmodule",
        "module t; reg [3:0] a, b; initial a = b[\u00a74:1]; endmodule",
        "module t; reg [3:1] a, b; initial a = b[\u00a73:0]; endmodule",
        "module t; reg [3:0] a, b; initial a[\u00a70:1] = b; endmodule",
        "module t; wire [3:0] w; assign w[\u00a75:4] = 1; endmodule",
        "module t; reg a; initial a = {\u00a70{1'b1}}; endmodule",
        "module t; reg a; initial a = {\u00a7-1{1'b1}}; endmodule",
        "module t; reg a; initial a = \u00a7{65{1'b1}}; endmodule",
        "module t; reg a; initial a = 1 + \u00a7{64'd1, a}; endmodule",
        "module t; reg a; initial a = \u00a7{{64'd1, a}, a}; endmodule",
        "module t; integer a; initial \u00a7{{a, a}, a} = 1; endmodule",
        "module t; wire [63:0] a; u x(.a(\u00a7{a, a})); endmodule module u(output a); endmodule",
        "module t; localparam P = \u00a7'bx; endmodule",
        "module t; wire w; assign w[\u00a7'bz] = 1; endmodule",
        "module t; reg a; initial @(a[\u00a7'bz]) ; endmodule",
        "module t; reg a; initial a = {{\u00a70{a}}, 64'd1, b}; endmodule",
    };

    private static final String[] GOOD = {
        "module t; reg [1:-2] a; reg [-3:-66] b; endmodule",
        "module t; localparam P = 33'h1ffffffff; reg [P + 1:0] a; endmodule",
        "module t; localparam P = 64'h100000003; reg [P:3] a; endmodule",
        "module t; reg [32'hffffffff:-1] a; endmodule",
        "module t; wire [3:0] w; assign w[9] = 1; assign w[-1] = 1; endmodule",
        "module t; reg [3:0] a; initial a = {64{1'b1}}; endmodule",
        "module t #(parameter P = 3, parameter Q = P + 1); reg [Q:P] a; endmodule",
        "module t; u #(.P()) x(); endmodule module u #(parameter P = 4); reg [P:0] a; endmodule",
        "module t; u #(.P(1)) x(); endmodule module u #(parameter P = q); reg [P:0] a; endmodule",
        "module t; wire [1:0] w; u x(.a({w[1], w[0:0]})); endmodule module u(output [1:0] a); endmodule",
        "module t; endmodule module u; v x(); w y(); endmodule module v; u x(); endmodule "
            + "module w; q z(); reg a, a; endmodule",
        "module t; localparam P = 5; reg a; initial a = P[2] + P[2:1]; endmodule",
    };

    private static void tops(Case c) {
        c.faulty(6, 0, "module t; endmodule module u; endmodule");
        c.faulty(6, 0, "module t; t x(); endmodule");
        c.faulty(6, 0, "  module t; u x(); endmodule module u; t x(); endmodule");
    }

    private static String many(String start, String one, int times, String end) {
        StringBuilder text = new StringBuilder(start);
        for (int k = 0; k < times; k++) {
            text.append(one.replace("#", "" + k));
        }
        return text.append(end).toString();
    }

    private static void tooMuch(Case c) {
        c.due("400 signals", c.build(many("module t;", "reg r#;", 400, "endmodule")), 400);
        c.faulty(5, many("module t;", "reg r#;", 400, "wire \u00a7w; endmodule"));
        c.faulty(2, many("module t;", "reg r#;", 400, "wire \u00a7r1; endmodule"));
        c.faulty(4, many("module t;", "reg r#;", 400, "wire [\u00a764:0] w; endmodule"));
        c.build(many("module t;", "initial ;", 200, many("wire w;", "assign w = 1;", 200, "endmodule")));
        c.faulty(5, many("module t;", "initial ;", 400, "wire w; \u00a7assign w = q; endmodule"));
        c.faulty(5, many("module t;", "initial ;", 400, "\u00a7always q = 1; endmodule"));
        String port = "module u(input a, input b); endmodule";
        c.build(many("module t; wire w;", "initial ;", 399, "u x(.a(), .b(w)); endmodule " + port));
        c.faulty(5, many("module t; wire w;", "initial ;", 399, "u x(.a(w), \u00a7.b(w)); endmodule " + port));
        c.faulty(5, many("module t; wire w;", "initial ;", 400, "u x(\u00a7.q(w)); endmodule " + port));
        c.faulty(2, many("module t; wire w;", "initial ;", 400, "u x(.\u00a7q()); endmodule " + port));
        c.build(many("module t;", "u x#();", 100, "endmodule module u; endmodule"));
        c.faulty(5, many("module t;", "u x#();", 100, "u \u00a7y(); endmodule module u; endmodule"));
        c.build("module t; u0 x(); endmodule " + deep(20));
        c.faulty(5, "module t; u x(); endmodule module u; u \u00a7y(); endmodule");
        c.build("module t; reg m[0:4095], n[4096:1]; endmodule");
        c.faulty(5, "module t; reg m[0:4095], n[4096:1], \u00a7k[3:3]; endmodule");
        tokens(c);
    }

    /** Instances in one another, as deep as is told. */
    private static String deep(int most) {
        StringBuilder text = new StringBuilder();
        for (int k = 0; k < most; k++) {
            text.append("module u").append(k).append(";");
            if (k + 1 < most) {
                text.append("u").append(k + 1).append(" x();");
            }
            text.append(" endmodule ");
        }
        return text.toString();
    }

    /** 18 TOKENS of the TOP and 3 instances of 13327 are 39999; with one more it is 40002. */
    private static void tokens(Case c) {
        String top = "module t; u x(); u y(); u \u00a7z(); endmodule ";
        String body = "module u; initial begin " + ";".repeat(13327 - 7) + " end endmodule";
        c.build(top.replace("\u00a7", "") + body);
        c.faulty(5, top + body.replaceFirst("begin ;", "begin ;;"));
    }
}
