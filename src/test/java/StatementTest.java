/** Terms, EVENTS: what processes do, and what they wait for. */
public final class StatementTest {
    public static void main(String[] args) {
        assignments();
        later();
        waits();
        edges();
        stars();
        cases();
        loops();
        order();
        Case.close();
    }

    private static Case of(String names, String items) {
        return Case.of(items, "module t; " + names + " " + items + " endmodule");
    }

    private static void assignments() {
        of("reg [3:0] a; reg [1:0] b; reg c;", "initial {a, c, b} = 7'b1010_1_01;")
                .run(9, 2).is(0, "1010").is(1, "01").is(2, "1");
        of("reg [3:0] a;", "initial begin a = 0; a[1] = 1; a[4] = 1; a[1'bx] = 1; a[3:2] = 2'bxz; end")
                .run(99, 2).is(0, "xz10");
        of("reg [3:0] a; reg [1:0] i;", "initial begin a = 0; i = 0; {i, a[i]} = 3'b10_1; end")
                .run(99, 2).is(0, "0100").is(1, "10");
        of("reg [3:0] m[3:1]; integer i;", "initial begin for (i = 0; i < 5; i = i + 1) m[i] = i; "
                + "m[1'bz] = 9; end").run(99, 2).is(0, 0, "0001").is(0, 1, "0010").is(0, 2, "0011");
        of("reg [3:0] a;", "initial begin a = 15; a = 8'h12; end").run(99, 2).is(0, "0010");
        of("reg a, b;", "initial begin b = 0; a = #5 b; end initial #3 b = 1;")
                .run(99, 2).is(0, "0").time(5);
        of("reg a, b, c;", "initial begin b = 0; a = @(posedge c) b; end initial begin #3 b = 1; #1 c = 1; end")
                .run(99, 2).is(0, "0").time(4);
        of("reg [1:0] a, i;", "initial begin a = 0; i = 0; a[i] = #2 1; end initial #1 i = 1;")
                .run(99, 2).is(0, "10");
        of("reg a, b;", "initial begin a = 0; a = #0 1; b = a; end initial b = a;")
                .run(4, 0).is(1, "x").run(99, 2).is(1, "1");
    }

    private static void later() {
        of("reg a, b;", "initial begin a = 0; b = 1; a <= b; b <= a; end").run(99, 2).is(0, "1").is(1, "0");
        of("reg [1:0] a; reg [1:0] i;", "initial begin a = 0; i = 0; a[i] <= 1; i = 1; end")
                .run(99, 2).is(0, "01");
        of("reg a;", "initial begin a <= 1; a <= 0; end").run(99, 2).is(0, "0");
        of("reg a;", "initial begin a <= #2 1; a <= #1 0; a <= #0 1'bz; end")
                .run(5, 0).is(0, "x").count(8, 1).count(9, 2).run(1, 0).is(0, "z").run(1, 0).is(0, "0").time(1)
                .run(1, 2).is(0, "1").time(2);
        of("reg a, b, c;", "initial begin c <= #1 1; #1 a = c; #0 b = c; end")
                .run(99, 2).is(0, "x").is(1, "x").is(2, "1");
        of("reg [3:0] a;", "initial begin a = 0; a[9] <= 1; a[1'bx] <= 1; end").run(99, 2).is(0, "0000").count(5, 7);
        of("reg [3:0] m[0:1];", "initial m[1] <= 4'bz01x;").run(9, 2).is(0, 1, "z01x").is(0, 0, "xxxx");
    }

    private static void waits() {
        of("reg a; integer n;", "initial begin n = 0; wait (a) n = 1; end initial begin #1 a = 0; #1 a = 1; end")
                .run(99, 2).time(2).count(11, 2);
        Case c = of("reg a, b; reg d;", "initial wait (a & b) d = 1;");
        c.run(99, 2).count(10, 1).count(5, 2);
        c.theatre.set(0, 0, 1, 0);
        c.run(99, 2).count(10, 1).count(5, 3).is(2, "x");
        c.theatre.set(1, 0, 1, 0);
        c.run(99, 2).count(10, 0).count(11, 1).count(5, 5).is(2, "1");
        of("reg a;", "initial wait (0) a = 1;").run(99, 2).count(10, 1).is(0, "x");
        of("reg a;", "initial wait (1'bx) a = 1;").run(99, 2).count(10, 1).is(0, "x");
        Case m = of("reg m[0:3]; reg d;", "initial wait (m[0] === 1'bx) ; initial wait (m[2]) d = 1;");
        m.run(99, 2).count(10, 1);
        m.theatre.set(0, 1, 1, 0);
        m.count(6, 1).run(99, 2).count(10, 1);
        m.theatre.set(0, 2, 1, 0);
        m.run(99, 2).is(1, "1");
    }

    /** Every change of a bit, and for which of a, posedge a and negedge a it fits. */
    private static void edges() {
        String bits = "01xz";
        for (char from : bits.toCharArray()) {
            for (char to : bits.toCharArray()) {
                Case c = of("reg [2:0] a; reg any, pos, neg, bit, part, other;", "initial @(a) any = 1; "
                        + "initial @(posedge a) pos = 1; initial @(negedge a) neg = 1; "
                        + "initial @(a[2]) bit = 1; initial @(posedge a[2]) part = 1; initial @(a[3]) other = 1;");
                c.theatre.set(0, 0, ones(from), unknown(from));
                c.run(99, 2).count(10, 6);
                c.theatre.set(0, 0, ones(to), unknown(to));
                c.run(99, 2);
                boolean changed = from != to;
                boolean up = changed && (from == '0' || to == '1');
                boolean down = changed && (from == '1' || to == '0');
                c.is(1, changed ? "1" : "x").is(2, up ? "1" : "x").is(3, down ? "1" : "x");
                c.is(4, "x").is(5, "x").is(6, "x");
                c.theatre.set(0, 0, ones(to) | 4, unknown(to));
                c.run(99, 2).is(1, "1").is(4, "1").is(5, "1").is(6, "x");
            }
        }
        Case c = of("reg a, b; integer n;", "initial n = 0; always @(posedge a or negedge b) n = n + 1;");
        c.theatre.set(1, 0, 1, 0);
        c.run(99, 2);
        c.theatre.set(0, 0, 1, 0);
        c.run(99, 2);
        c.theatre.set(1, 0, 0, 0);
        c.run(99, 2).due("n", c.theatre.value(2, 0, 0), 2);
    }

    private static int ones(char bit) {
        return bit == '1' || bit == 'x' ? 1 : 0;
    }

    private static int unknown(char bit) {
        return bit == 'x' || bit == 'z' ? 1 : 0;
    }

    private static void stars() {
        Case c = of("reg a, b, k, o; reg [1:0] i, l; reg m[0:3];",
                "always @* begin if (a) o = b; l[i] = m[2]; k = 1; end");
        c.run(99, 2).count(10, 1).count(5, 2);
        wakes(c, 0, 0, 7);
        wakes(c, 1, 0, 7);
        wakes(c, 4, 0, 7);
        wakes(c, 6, 0, 7);
        wakes(c, 2, 0, 0);
        wakes(c, 3, 0, 0);
        wakes(c, 5, 0, 0);
        Case d = of("reg a, c, n; reg [1:0] b;", "initial @* begin #b n = 1; @(c) ; end");
        d.run(99, 2);
        wakes(d, 1, 0, 0);
        wakes(d, 2, 0, 0);
        d.count(10, 1).count(5, 2);
        d.theatre.set(3, 0, 2, 0);
        d.run(99, 2).time(2).count(10, 1).count(5, 8);
        wakes(d, 1, 0, 0);
        d.count(11, 1);
        of("reg a;", "initial @* a = 1;").run(99, 2).count(10, 1).is(0, "x");
    }

    /** Setting a bit to z and then 1 must cost that much the second time. */
    private static void wakes(Case c, int v, int w, int cost) {
        c.theatre.set(v, w, 0, 1);
        c.theatre.run(1000);
        int before = c.theatre.count(5);
        c.theatre.set(v, w, 1, 0);
        c.theatre.run(1000);
        c.due("cost of " + v, c.theatre.count(5) - before, cost);
    }

    private static void cases() {
        picks("case", "4'b01xz", "4'b0100: n = 1; 4'b01xz: n = 2; default: n = 3;", 2);
        picks("case", "4'b0100", "4'b01??: n = 1; default: n = 3; 4'b0100: n = 2;", 2);
        picks("casez", "4'b0100", "4'b1???: n = 1; 4'b01??: n = 2; 4'b0100: n = 3;", 2);
        picks("casez", "4'bz111", "4'b0110: n = 1; 4'b0111: n = 2;", 2);
        picks("casez", "4'bx111", "4'b0111: n = 1; 4'b?111: n = 2;", 2);
        picks("case", "4'd5", "1, 2: n = 1; default: n = 3; 4, 5: n = 2;", 2);
        picks("case", "4'd5", "default: n = 3; 4, 6: n = 2;", 3);
        picks("case", "4'd5", "4, 6: n = 2;", 0);
        // The greatest WIDTH of all, signed only if all are.
        picks("case", "4'sb1111", "8'sb11111111: n = 1; default: n = 2;", 1);
        picks("case", "4'sb1111", "8'b11111111: n = 1; 8'b00001111: n = 2;", 2);
        picks("case", "4'sb1111", "8'sb11111111: n = 1; 1'b0: n = 3; 8'sb00001111: n = 2;", 2);
        picks("case", "4'd15 + 4'd1", "8'd16: n = 1; 8'd0: n = 2;", 1);
        picks("case", "4'd15 + 4'd1", "4'd0: n = 1; 4'd1: n = 2;", 1);
        picks("case", "1", "0 == 0: n = 1; 1: n = 2;", 1);
    }

    private static void picks(String word, String of, String choices, int want) {
        Case c = of("integer n;", "initial begin n = 0; " + word + " (" + of + ") " + choices + " endcase end");
        c.run(99, 2).due("choice", c.theatre.value(0, 0, 0), want);
    }

    private static void loops() {
        Case c = of("integer i, n;", "initial begin n = 0; for (i = 5; i > 0; i = i - 2) n = n + i; end");
        c.run(99, 2).due("n", c.theatre.value(1, 0, 0), 9);
        c.due("i", (int) c.theatre.value(0, 0, 0), -1);
        c = of("integer i, n;", "initial begin n = 0; for (i = 0; i < 1'bx; i = 1) n = 1; end");
        c.run(99, 2).due("n", c.theatre.value(1, 0, 0), 0);
        c = of("integer i, n;", "initial begin n = 0; i = 0; for (n = 3; n < 9; i = i + 1) n = n + 2; end");
        c.run(99, 2).due("i", c.theatre.value(0, 0, 0), 3);
        c = of("integer n;", "initial begin n = 0; while (n < 4) n = n + 1; repeat (-8'sd250) n = n + 1; end");
        c.run(99, 2).due("n", c.theatre.value(0, 0, 0), 10);
        c = of("integer n;", "initial begin n = 0; repeat (2) repeat (3) begin n = n + 1; #1 ; end end");
        c.run(99, 2).time(6).due("n", c.theatre.value(0, 0, 0), 6);
        c = of("integer n;", "initial begin n = 0; forever #2 n = n + 1; end");
        c.run(34, 0).time(14).due("n", c.theatre.value(0, 0, 0), 7);
        c = of("reg a; integer n;", "initial n = 0; always begin #1 n = n + 1; @(a) ; end");
        c.run(99, 2).time(1).count(10, 1).due("n", c.theatre.value(1, 0, 0), 1);
    }

    private static void order() {
        of("reg [3:0] a;", "initial @(a) $write(\"1\"); initial @(a) $write(\"2\"); "
                + "initial #1 $write(\"3\"); initial begin #1 $write(\"4\"); a = 1; $write(\"5\"); end "
                + "initial begin #0 $write(\"6\"); end initial $write(\"7\"); initial #1 $write(\"8\");")
                .run(99, 2).logs("76345812");
        // Those that began to wait earlier go first, and processes before ASSIGNS.
        of("reg a; wire w; reg b;", "assign w = a; initial begin #1 @(a) $write(\"1\"); end "
                + "initial @(a) $write(\"2\"); initial @(w) $write(\"3\"); initial #2 a = 1;")
                .run(99, 2).logs("213");
        of("reg a;", "initial begin a <= 1; $write(\"1\"); #0 $write(\"2\"); end always @(a) $write(\"3\"); "
                + "initial #1 $write(\"4\");").run(99, 2).logs("1234");
        of("reg a;", "initial begin a <= #1 1; end always @(a) $write(\"3\"); "
                + "initial begin #1 $write(\"1\"); #0 $write(\"2\"); end").run(99, 2).logs("123");
    }
}
