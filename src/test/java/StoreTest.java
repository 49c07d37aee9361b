/** What is told of activations, variables, things and their cells: promises 10 to 14. */
public final class StoreTest {
    public static void main(String[] args) {
        Bench b = new Bench("store");
        cells(b);
        strings(b);
        takes(b);
        schemata(b);
        references(b);
        withs(b);
        things(b);
        tags(b);
        copies(b);
        afterEnds(b);
        b.close();
    }

    /** The object before the program's step n + 1. */
    private static SchemaPascal after(Bench b, int n, String text) {
        SchemaPascal x = b.compiled(text);
        x.start();
        b.due(text + " | goes on", x.step(n), 0);
        return x;
    }

    private static void cells(Bench b) {
        SchemaPascal x = after(b, 7, "program a; type c = (r, g, h); p = ^char; var i: integer; b: boolean; k: char; o: c; s: set of 0..63; q: p; n: p; u: integer; begin i := -5; b := true; k := 'a'; o := h; s := [0, 63]; new(q); n := nil; halt end.");
        b.due("integer", x.value(0, 0, 0), -5);
        b.due("boolean", x.value(0, 1, 0), 1);
        b.due("char", x.value(0, 2, 0), 97);
        b.due("list", x.value(0, 3, 0), 2);
        b.due("set", x.value(0, 4, 0), 1L | 1L << 63);
        b.due("pointer", x.value(0, 5, 0), 1);
        b.due("nil", x.value(0, 6, 0), 0);
        for (int k = 0; k < 8; k++) {
            b.due("cells of " + k, x.variable(0, k, 0), 1);
            b.due("defined of " + k, x.variable(0, k, 1), k < 7 ? 1 : 0);
        }
        b.thrown("undefined", IllegalStateException.class, () -> x.value(0, 7, 0));
        b.thrown("no cell", IndexOutOfBoundsException.class, () -> x.value(0, 7, 1));
        b.thrown("no cell", IndexOutOfBoundsException.class, () -> x.value(0, 0, -1));
        b.thrown("no variable", IndexOutOfBoundsException.class, () -> x.value(0, 8, 0));
        b.thrown("no variable", IndexOutOfBoundsException.class, () -> x.value(0, -1, 0));
        b.thrown("no activation", IndexOutOfBoundsException.class, () -> x.value(1, 0, 0));
        b.thrown("no activation", IndexOutOfBoundsException.class, () -> x.value(-1, 0, 0));
        b.thrown("no discriminant", IndexOutOfBoundsException.class, () -> x.variable(0, 0, 2));
        b.thrown("no what", IndexOutOfBoundsException.class, () -> x.variable(0, 0, -1));
        b.thrown("no variable", IndexOutOfBoundsException.class, () -> x.variable(0, 8, 0));
        b.thrown("no activation", IndexOutOfBoundsException.class, () -> x.variable(1, 0, 0));
        b.thrown("no what", IndexOutOfBoundsException.class, () -> x.activation(0, 4));
        b.thrown("no what", IndexOutOfBoundsException.class, () -> x.activation(0, -1));
        b.thrown("no activation", IndexOutOfBoundsException.class, () -> x.activation(1, 0));
        b.thrown("no activation", IndexOutOfBoundsException.class, () -> x.activation(-1, 0));
        b.due("variables", x.activation(0, 2), 8);
    }

    private static void strings(Bench b) {
        String text = "program a; var s: string(4); t: string(2) value 'x'; begin s := 'abcd'; s := 'xy'; halt end.";
        SchemaPascal x = after(b, 1, text);
        b.due("cells", x.variable(0, 0, 0), 5);
        b.due("defined", x.variable(0, 0, 1), 5);
        b.due("length", x.value(0, 0, 0), 4);
        b.due("byte", x.value(0, 0, 4), 'd');
        b.due("of value", x.variable(0, 1, 1), 2);
        SchemaPascal y = after(b, 2, text);
        b.due("defined", y.variable(0, 0, 1), 3);
        b.due("length", y.value(0, 0, 0), 2);
        b.due("byte", y.value(0, 0, 2), 'y');
        b.thrown("behind", IllegalStateException.class, () -> y.value(0, 0, 3));
    }

    private static void takes(Bench b) {
        SchemaPascal x = b.compiled("program a; begin halt end.");
        x.start();
        b.due("nothing", x.told(5), 0);
        x = b.compiled("program a; type v(n, m: integer) = record x: array [1..n] of char; y: string(m) end; var i: integer; s: string(5); r: record a: char; case k: boolean of true: (b, c: char); false: (d: string(3)) end; w: v(2, 3); begin with w do with w, w do; halt end.");
        x.start();
        // 4 variables, 3 of with; 1, 6, 2 + 4, 2 + 2 + 4 cells
        b.due("program", x.told(5), 7 + 1 + 6 + 6 + 8);
        x = after(b, 1, "program a; type v(n: integer) = array [1..n] of char; v2 = v(2); s3 = string(3); var g: v2; procedure p(a: integer; var b: v; c: v; d: v2; protected e: v; f: s3); var l: v(a + 3); m: char; begin halt end; begin p(1, g, g, g, g, 'x') end.");
        b.due("activations", x.told(4), 2);
        // g: 1 + 1 + 2; p: 8 variables; a 1, c 1 + 2, d 1 + 2, f 4, l 1 + 4, m 1
        b.due("p", x.told(5), 4 + 8 + 1 + 3 + 3 + 4 + 5 + 1);
        b.due("variables", x.activation(0, 2), 8);
        b.due("c's discriminant", x.variable(0, 2, 2), 2);
        b.due("l's discriminant", x.variable(0, 6, 2), 4);
        b.due("l's cells", x.variable(0, 6, 0), 4);
        b.due("f", x.variable(0, 5, 1), 2);
        SchemaPascal y = after(b, 1, "program a; function f(x: char): integer; var v: char; begin f := 1 end; begin write(f('a')) end.");
        b.due("f's variables", y.activation(0, 2), 3);
        b.due("f takes", y.told(5), 6);
        b.due("the result last", y.variable(0, 2, 1), 0);
        b.due("a param", y.value(0, 0, 0), 'a');
        b.due("a var", y.variable(0, 1, 1), 0);
        y.step(1);
        b.due("all is given back", y.told(5), 0);
    }

    private static void schemata(Bench b) {
        SchemaPascal x = after(b, 3, "program a; type d = 1..9; v(n: d) = array [1..n] of integer; m(r, c: d) = array [1..r] of v(c); t(b: boolean; c: char) = record x: array ['a'..c] of array [false..b] of char end; var q: m(2, 3); w: t(true, 'b'); begin q[2, 1] := 5; q[1, 3] := 6; w.x['b', false] := 'z'; halt end.");
        b.due("cells", x.variable(0, 0, 0), 6);
        b.due("defined", x.variable(0, 0, 1), 2);
        b.due("r", x.variable(0, 0, 2), 2);
        b.due("c", x.variable(0, 0, 3), 3);
        b.thrown("no more", IndexOutOfBoundsException.class, () -> x.variable(0, 0, 4));
        b.due("2, 1", x.value(0, 0, 3), 5);
        b.due("1, 3", x.value(0, 0, 2), 6);
        b.due("b", x.variable(0, 1, 2), 1);
        b.due("c", x.variable(0, 1, 3), 'b');
        b.due("z", x.value(0, 1, 2), 'z');
        b.due("cells", x.variable(0, 1, 0), 4);
        b.thrown("no cell", IndexOutOfBoundsException.class, () -> x.value(0, 1, 4));
    }

    private static void references(Bench b) {
        SchemaPascal x = after(b, 5, "program a; type v(n: integer) = array [1..n] of integer; m(r, c: integer) = array [1..r] of v(c); var q: m(2, 3); i: integer; p: ^v; procedure s(var a: v; protected c: integer; var d: v); begin halt end; begin q[2, 1] := 5; i := 7; new(p, 4); p^[4] := 9; s(q[2], i, p^) end.");
        b.due("a's cells", x.variable(0, 0, 0), 3);
        b.due("a's n", x.variable(0, 0, 2), 3);
        b.due("a's first", x.value(0, 0, 0), 5);
        b.due("c", x.value(0, 1, 0), 7);
        b.due("d's cells", x.variable(0, 2, 0), 4);
        b.due("d's n", x.variable(0, 2, 2), 4);
        b.due("d's last", x.value(0, 2, 3), 9);
        b.due("takes", x.told(5), 3 + 8 + 1 + 1 + 3);
    }

    private static void withs(Bench b) {
        SchemaPascal x = b.compiled("program a; type r = record x: integer end; var v: r; procedure p; begin with v do with v, v do x := 1 end; begin with v do x := 2; p end.");
        x.start();
        b.due("one variable, a with, a cell", x.told(5), 3);
        b.due("variables", x.activation(0, 2), 1);
        x.step(2);
        b.due("p takes for its withs", x.told(5), 3 + 3);
        b.due("p has no variables", x.activation(0, 2), 0);
    }

    private static void things(Bench b) {
        SchemaPascal x = after(b, 8, "program a; type v(n, m: integer) = record a: array [1..n] of char; b: string(m) end; v2 = v(2, 2); e = record end; var p: ^v; q: ^v2; i: ^integer; o: ^e; begin new(p, 1, 3); new(q); new(i); new(o); i^ := 5; p^.b := 'xy'; dispose(q); q := nil; halt end.");
        b.due("ever take", x.told(6), 1 + 2 + 5 + 1 + 2 + 5 + 1 + 1 + 1);
        b.due("there", x.told(7), 3);
        b.due("1 is there", x.thing(1, 0), 1);
        b.due("1 has", x.thing(1, 1), 5);
        b.due("n", x.thing(1, 2), 1);
        b.due("m", x.thing(1, 3), 3);
        b.due("2 is not", x.thing(2, 0), 0);
        b.due("2 has none", x.thing(2, 1), 0);
        b.due("3 has", x.thing(3, 1), 1);
        b.due("4 has", x.thing(4, 1), 0);
        b.due("4 is there", x.thing(4, 0), 1);
        b.due("i^", x.cell(3, 0), 5);
        b.due("b's length", x.cell(1, 1), 2);
        b.due("b's byte", x.cell(1, 3), 'y');
        b.thrown("a is undefined", IllegalStateException.class, () -> x.cell(1, 0));
        b.thrown("behind b", IllegalStateException.class, () -> x.cell(1, 4));
        b.thrown("no cell", IndexOutOfBoundsException.class, () -> x.cell(1, 5));
        b.thrown("no cell", IndexOutOfBoundsException.class, () -> x.cell(1, -1));
        b.thrown("not there", IndexOutOfBoundsException.class, () -> x.cell(2, 0));
        b.thrown("none", IndexOutOfBoundsException.class, () -> x.cell(4, 0));
        b.thrown("no thing", IndexOutOfBoundsException.class, () -> x.cell(5, 0));
        b.thrown("no thing", IndexOutOfBoundsException.class, () -> x.cell(0, 0));
        b.thrown("no thing", IndexOutOfBoundsException.class, () -> x.thing(5, 0));
        b.thrown("no thing", IndexOutOfBoundsException.class, () -> x.thing(0, 0));
        b.thrown("no what", IndexOutOfBoundsException.class, () -> x.thing(1, -1));
        b.thrown("no discriminant", IndexOutOfBoundsException.class, () -> x.thing(1, 4));
        b.thrown("no discriminant", IndexOutOfBoundsException.class, () -> x.thing(3, 2));
        b.due("pointer", x.value(0, 2, 0), 3);
    }

    private static void tags(Bench b) {
        String text = "program a; type r = record a: integer; case k: char of 'a', 'b': (x, y: integer); 'c': (s: string(3)) end; var v: r; begin v.a := 1; v.k := 'a'; v.x := 2; v.k := 'b'; v.k := 'z'; v.k := 'c'; v.s := 'pq'; halt end.";
        SchemaPascal x = after(b, 4, text);
        b.due("cells", x.variable(0, 0, 0), 6);
        b.due("the same variant", x.variable(0, 0, 1), 3);
        b.due("x", x.value(0, 0, 2), 2);
        x = after(b, 5, text);
        b.due("another one", x.variable(0, 0, 1), 2);
        b.due("tag", x.value(0, 0, 1), 'z');
        x = after(b, 7, text);
        b.due("with s", x.variable(0, 0, 1), 5);
        b.due("s", x.value(0, 0, 2), 2);
    }

    private static void copies(Bench b) {
        SchemaPascal x = after(b, 3, "program a; type r = array [1..3] of integer; var v, w: r; procedure p(z: r); begin halt end; begin v[2] := 5; w := v; p(w) end.");
        b.due("w", x.variable(1, 1, 1), 1);
        b.due("w[2]", x.value(1, 1, 1), 5);
        b.due("z", x.variable(0, 0, 1), 1);
        b.thrown("z[1]", IllegalStateException.class, () -> after(b, 1, "program a; type r = array [1..3] of integer; var v: r; procedure p(z: r); begin halt end; begin p(v) end.").value(0, 0, 0));
        // Cell by cell from the first on, where both lie on one another.
        x = after(b, 6, "program a; type t = array [1..3] of integer; r = record case k: boolean of true: (a: t); false: (i: integer; b: t) end; var v: array [1..1] of r; function f: integer; begin v[1].k := true; v[1].a[1] := 7; v[1].a[2] := 8; f := 1 end; begin v[1].k := false; v[1].b := v[f].a; halt end.");
        b.due("first", x.value(0, 0, 1), 7);
        b.due("onto the second", x.value(0, 0, 2), 7);
        b.due("and the third", x.value(0, 0, 3), 7);
        b.due("and the fourth", x.value(0, 0, 4), 7);
    }

    private static void afterEnds(Bench b) {
        SchemaPascal x = b.ran("program a; var p: ^integer; begin new(p); p^ := 3 end.");
        b.thrown("no activation", IndexOutOfBoundsException.class, () -> x.value(0, 0, 0));
        b.thrown("no activation", IndexOutOfBoundsException.class, () -> x.activation(0, 0));
        b.due("activations", x.told(4), 0);
        b.due("taken", x.told(5), 0);
        b.due("things", x.told(7), 1);
        b.due("thing", x.cell(1, 0), 3);
        SchemaPascal y = b.ran("program a; var p: ^integer; begin new(p); p^ := 3; p^ := 1 div 0 end.");
        b.due("activations", y.told(4), 1);
        b.due("p", y.value(0, 0, 0), 1);
        b.due("thing", y.cell(1, 0), 3);
        Bench.feed(y, "x");
        y.compile();
        b.due("activations", y.told(4), 0);
        b.due("things", y.told(6), 0);
        b.thrown("no thing", IndexOutOfBoundsException.class, () -> y.thing(1, 0));
    }
}
