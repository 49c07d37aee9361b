/** The calls of the face and what they throw: promises 1 to 9 and 15. */
public final class FaceTest {
    public static void main(String[] args) {
        Bench b = new Bench("face");
        fresh(b);
        tape(b);
        compiling(b);
        starting(b);
        input(b);
        stepping(b);
        out(b);
        manyCalls(b);
        b.close();
    }

    private static void fresh(Bench b) {
        SchemaPascal x = new SchemaPascal();
        for (int what = 0; what < 12; what++) {
            b.due("told " + what, x.told(what), what == 3 ? SchemaPascal.NONE : 0);
        }
        b.due("NONE", SchemaPascal.NONE, -1);
        b.due("fault", x.fault(), 0);
        b.thrown("told(12)", IndexOutOfBoundsException.class, () -> x.told(12));
        b.thrown("told(-1)", IndexOutOfBoundsException.class, () -> x.told(-1));
        b.thrown("start", IllegalStateException.class, x::start);
        b.thrown("step", IllegalStateException.class, () -> x.step(0));
        b.thrown("activation", IndexOutOfBoundsException.class, () -> x.activation(0, 0));
        b.thrown("value", IndexOutOfBoundsException.class, () -> x.value(0, 0, 0));
        b.thrown("variable", IndexOutOfBoundsException.class, () -> x.variable(0, 0, 0));
        b.thrown("thing", IndexOutOfBoundsException.class, () -> x.thing(1, 0));
        b.thrown("cell", IndexOutOfBoundsException.class, () -> x.cell(1, 0));
        b.thrown("out", IndexOutOfBoundsException.class, () -> x.out(0));
    }

    private static void tape(Bench b) {
        SchemaPascal x = new SchemaPascal();
        b.due("feed", x.feed(0x70726f67, 0x72616d20, 0x613b2062, 0x6567696e, 0x20656e64), 20);
        b.due("bytes", x.told(11), 20);
        b.thrown("end(21)", IllegalArgumentException.class, () -> x.end(21));
        b.thrown("end(-1)", IllegalArgumentException.class, () -> x.end(-1));
        b.due("bytes", x.told(11), 20);
        b.due("feed", x.feed(0x2effffff, -1, 0, 0, 0), 40);
        x.end(21);
        b.due("bytes", x.told(11), 21);
        b.due("compile", x.compile(), 0);
        b.due("bytes", x.told(11), 0);
        b.thrown("end(1)", IllegalArgumentException.class, () -> x.end(1));
        x.end(0);
        int fed = 0;
        for (int i = 0; i < 1638; i++) {
            fed = x.feed(0x20202020, 0x20202020, 0x20202020, 0x20202020, 0x20202020);
        }
        b.due("full", fed, 32760);
        b.thrown("no room", UnsupportedOperationException.class, () -> x.feed(0, 0, 0, 0, 0));
        b.due("bytes", x.told(11), 32760);
        x.end(32748);
        b.due("just room", x.feed(0x20202020, 0x20202020, 0x20202020, 0x20202020, 0x20202020), 32768);
        b.due("blanks", x.compile(), -1 - 32768);
        b.due("fault", x.fault(), 2);
    }

    private static void compiling(Bench b) {
        SchemaPascal x = b.ran("program a; procedure p; begin end; function f: char; procedure q; begin end; begin f := 'a' end; var i: integer; begin i := 5; write(i, f); i := 1 div 0 end.");
        b.due("routines", x.told(10), 3);
        b.due("error", x.told(2), 7);
        Bench.feed(x, "program b; begin end");
        b.due("fault's place", x.compile(), -21);
        b.due("fault", x.fault(), 2);
        for (int what = 0; what < 12; what++) {
            b.due("gone " + what, x.told(what), what == 3 ? -1 : 0);
        }
        b.thrown("start", IllegalStateException.class, x::start);
        b.thrown("out", IndexOutOfBoundsException.class, () -> x.out(0));
        Bench.feed(x, "program b; begin write(1) end.");
        b.due("compile", x.compile(), 0);
        b.due("fault", x.fault(), 0);
        b.due("routines", x.told(10), 0);
        b.thrown("not begun", IllegalStateException.class, () -> x.step(1));
        x.start();
        b.due("ends", x.step(9), 1);
        b.due("written", Bench.written(x), "1");
        b.due("an empty tape", x.compile(), -1);
        b.due("fault", x.fault(), 2);
        // Names of one text are not known in the next.
        Bench.feed(x, "program b; var i, j: integer; procedure p; begin end; begin end.");
        b.due("compile", x.compile(), 0);
        Bench.feed(x, "program c; begin i := 1 end.");
        b.due("compile", x.compile(), -18);
        Bench.feed(x, "program c; var z, j: integer; begin j := 1; p end.");
        b.due("compile", x.compile(), -45);
        b.due("fault", x.fault(), 3);
    }

    private static void starting(Bench b) {
        SchemaPascal x = b.ran("program a; var i: integer; p: ^char; begin read(i); write(i); new(p) end.", 4, 5);
        b.due("written", Bench.written(x), "4");
        b.due("not read", x.told(9), 1);
        b.due("things", x.told(7), 1);
        x.start();
        b.due("begun", x.told(0), 1);
        b.due("steps", x.told(1), 0);
        b.due("nothing written", x.told(8), 0);
        b.due("no things", x.told(7), 0);
        b.due("nothing ever", x.told(6), 0);
        b.due("not read", x.told(9), 1);
        b.due("undefined", x.variable(0, 0, 1), 0);
        x.step(2);
        b.due("written", Bench.written(x), "5");
        x.start();
        b.due("anew while it goes on", x.told(1), 0);
        b.due("an error", x.step(1), 2);
        b.due("error", x.told(2), 12);
        b.due("steps", x.told(1), 1);
        x.start();
        b.due("no error", x.told(2), 0);
        b.due("no place", x.told(3), -1);
        SchemaPascal y = b.compiled("program a; type v(n: integer) = array [1..n] of char; var q: integer value 0; x: v(q); begin end.");
        y.start();
        b.due("ended by its variables", y.told(0), 0);
        b.due("error", y.told(2), 2);
        b.due("place", y.told(3), 0);
        b.due("activations", y.told(4), 1);
        b.due("q is made", y.value(0, 0, 0), 0);
        b.thrown("x is not", IndexOutOfBoundsException.class, () -> y.variable(0, 1, 0));
        b.thrown("has ended", IllegalStateException.class, () -> y.step(1));
        // A with is no step: what goes wrong in it before the first step does so in start.
        String text = "program a; type r = record x: integer end; var p: ^r; begin with p^ do x := 1 end.";
        SchemaPascal z = b.compiled(text);
        z.start();
        b.due("ended by its with", z.told(0), 0);
        b.due("error", z.told(2), 1);
        b.due("place", z.told(3), text.indexOf("^ do"));
        b.due("steps", z.told(1), 0);
        b.due("no statement", z.activation(0, 3), SchemaPascal.NONE);
    }

    private static void input(Bench b) {
        SchemaPascal x = b.compiled("program a; var i: integer; begin while not eof do begin read(i); if i = 3 then halt end end.");
        b.thrown("below -maxint", IllegalArgumentException.class, () -> x.input(Integer.MIN_VALUE));
        b.due("none", x.told(9), 0);
        b.due("the least", x.input(-2147483647), 1);
        b.due("the most", x.input(2147483647), 2);
        for (int i = 3; i <= 1000; i++) {
            b.due("input", x.input(i), i);
        }
        b.thrown("no room", UnsupportedOperationException.class, () -> x.input(1));
        b.thrown("below -maxint first", IllegalArgumentException.class, () -> x.input(Integer.MIN_VALUE));
        b.due("not read", x.told(9), 1000);
        x.start();
        b.due("goes on", x.step(2), 0);
        b.due("goes on", x.step(1), 0);
        b.due("one read", x.told(9), 999);
        b.due("it", x.value(0, 0, 0), -2147483647);
        b.due("room again", x.input(7), 1000);
        x.step(3);
        b.due("the second", x.value(0, 0, 0), 2147483647);
        b.due("ends", x.step(20000), 1);
        b.due("not read", x.told(9), 998);
        Bench.feed(x, "!");
        x.compile();
        b.due("stay", x.told(9), 998);
        Bench.feed(x, "program a; var i, k: integer; begin while not eof do begin read(i); k := i end; write(k) end.");
        x.compile();
        x.start();
        b.due("ends", x.step(20000), 1);
        b.due("the last one", Bench.written(x), "7");
    }

    private static void stepping(Bench b) {
        SchemaPascal x = b.compiled("program a; var i: integer; begin i := 0; while true do i := i + 1 end.");
        b.thrown("not begun", IllegalStateException.class, () -> x.step(5));
        b.thrown("the number first", IllegalArgumentException.class, () -> x.step(20001));
        b.thrown("the number first", IllegalArgumentException.class, () -> x.step(-1));
        x.start();
        b.thrown("too many", IllegalArgumentException.class, () -> x.step(20001));
        b.thrown("below 0", IllegalArgumentException.class, () -> x.step(-1));
        b.due("nothing", x.step(0), 0);
        b.due("all", x.step(20000), 0);
        b.due("steps", x.told(1), 20000);
        b.due("i", x.value(0, 0, 0), 9999);
        b.due("begun", x.told(0), 1);
        SchemaPascal y = b.ran("program a; var i: integer; begin i := 0 end.");
        b.due("steps stay", y.told(1), 1);
        b.due("not begun", y.told(0), 0);
        b.thrown("has ended", IllegalStateException.class, () -> y.step(0));
        b.thrown("the number first", IllegalArgumentException.class, () -> y.step(-1));
        SchemaPascal z = b.compiled("program a; var i: integer; begin i := 0; i := 1 div i end.");
        z.start();
        b.due("goes on", z.step(1), 0);
        b.due("an error", z.step(1), 2);
        b.thrown("has ended", IllegalStateException.class, () -> z.step(1));
        b.due("steps", z.told(1), 2);
    }

    private static void out(Bench b) {
        SchemaPascal x = b.ran("program a; var i: integer; begin for i := 1 to 401 do write('12345678901234567890123456789012345678901234567890'); write(chr(255)) end.");
        b.due("all are counted", x.told(8), 20051);
        b.due("the first", x.out(0), '1');
        b.due("the last kept", x.out(19999), '0');
        b.thrown("not kept", IndexOutOfBoundsException.class, () -> x.out(20000));
        b.thrown("below 0", IndexOutOfBoundsException.class, () -> x.out(-1));
        SchemaPascal y = b.ran("program a; begin write(chr(255), chr(128), chr(0)) end.");
        b.due("a byte", y.out(0), 255);
        b.due("a byte", y.out(1), 128);
        b.due("a byte", y.out(2), 0);
        b.thrown("not written", IndexOutOfBoundsException.class, () -> y.out(3));
    }

    /** An object is good for 512 calls, whatever they are. */
    private static void manyCalls(Bench b) {
        SchemaPascal x = new SchemaPascal();
        for (int i = 0; i < 60; i++) {
            Bench.feed(x, "program a; var i: integer; begin i := " + i + "; write(i) end.");
            b.due("compile", x.compile(), 0);
            x.start();
            b.due("ends", x.step(5), 1);
            b.due("written", Bench.written(x), Integer.toString(i));
        }
    }
}
