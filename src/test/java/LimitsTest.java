/** Parts 2 and 3: what may not be so (fault 7), what is too much (8), constants of a case (9). */
public final class LimitsTest {
    public static void main(String[] args) {
        Bench b = new Bench("limits");
        impossible(b);
        known(b);
        deep(b);
        deepTypes(b);
        tall(b);
        pieces(b);
        counts(b);
        cases(b);
        b.close();
    }

    private static String times(int n, String s) {
        StringBuilder b = new StringBuilder();
        for (int i = 0; i < n; i++) {
            b.append(s);
        }
        return b.toString();
    }

    private static String type(String type) {
        return "program a; type t = " + type + "; begin end.";
    }

    private static void impossible(Bench b) {
        b.good(type("1..1"));
        b.fault(7, type("1..0`"));
        b.fault(7, type("'b'..'a'`"));
        b.fault(7, type("true..false`"));
        b.fault(7, type("array [5..3`] of char"));
        b.fault(7, type("record x: 5..3`; y: char end"));
        b.good(type("string(1)"));
        b.good(type("string(80)"));
        b.fault(7, type("string(0)`"));
        b.fault(7, type("string(81)`"));
        b.fault(7, type("string(-1)`"));
        b.good(type("set of 0..63"));
        b.good(type("set of boolean"));
        b.fault(7, type("set of -1..3`"));
        b.fault(7, type("set of 0..64`"));
        b.fault(7, type("set of integer`"));
        b.fault(7, type("set of char`"));
        b.good(type("set of '!'..'?'"));
        b.fault(7, type("set of 'a'..'z'`"));
        b.good(type("array [1..4000] of integer"));
        b.fault(7, type("array [1..4001`] of integer"));
        b.fault(7, type("array [integer`] of char"));
        b.fault(7, type("array [1..2, 0..4000`] of record end"));
        b.good(type("array [1..4000] of record end"));
        b.good(type("array [1..40, 1..100] of integer"));
        b.fault(7, type("array [1..41, 1..100] of integer`"));
        b.fault(7, type("array [1..41] of array [1..100] of integer`"));
        b.good(type("array [1..49] of string(80)"));
        b.fault(7, type("array [1..50] of string(80)`"));
        b.good(type("record a: array [1..3999] of char; b: char end"));
        b.fault(7, type("record a: array [1..3999] of char; b, c: char end`"));
        b.good(type("record case k: boolean of true: (a: array [1..3999] of char); false: (b: array [1..3999] of char) end"));
        b.fault(7, type("record case k: boolean of true: (a: array [1..4000] of char) end`"));
        b.fault(7, "program a; type t(n: integer) = array [1..n, 1..100] of array [1..100] of char`; begin end.");
        b.good("program a; type t(n: integer) = array [1..n, 1..100] of array [1..40] of char; begin end.");
        b.fault(7, "program a; type t(n: integer) = record x: array [2..1`] of char; y: array [1..n] of char end; begin end.");
        b.fault(7, "program a; type t(n: integer) = record x: set of 0..64`; y: array [1..n] of char end; begin end.");
        b.fault(7, "program a; type t(n: integer) = record x: array [1..4001`] of char; y: array [1..n] of char end; begin end.");
        b.fault(7, "program a; var x: 1..3 value 4`; begin end.");
        b.fault(7, "program a; var x: 1..3 value 0`; begin end.");
        b.fault(7, "program a; var x: string(3) value 'abcd'`; begin end.");
        b.good("program a; var x: string(3) value 'abc'; y: 1..3 value 3; begin end.");
        String schema = "program a; type s = 1..9; t(n: s; m: integer) = record a: 1..n; b: string(m); c: set of 0..m; d: array [0..m] of array [1..n] of char end; u(n: integer) = record x: t(n, 2) end; ";
        b.good(schema + "v = t(9, 63); begin end.");
        b.fault(7, schema + "v = t(0, 3)`; begin end.");
        b.fault(7, schema + "v = t(10, 3)`; begin end.");
        b.fault(7, schema + "v = t(3, 0)`; begin end.");
        b.fault(7, schema + "v = t(3, 64)`; begin end.");
        b.fault(7, schema + "v = u(10)`; begin end.");
        b.fault(7, schema + "v = array [1..2] of t(3, 0)`; begin end.");
        b.fault(7, schema + "v = array [1..100] of t(9, 3)`; begin end.");
        b.fault(7, schema + "var x: t(3, 0)`; begin end.");
        b.good(schema + "var y: integer; x: t(y, 0); begin end.");
        b.good("program a; type t(n: integer) = array [1..n] of char; v = t(4000); begin end.");
        b.fault(7, "program a; type t(n: integer) = array [1..n] of char; v = t(4001)`; begin end.");
        b.fault(7, "program a; type t(n: integer) = array [1..10 div n] of char; v = t(0)`; begin end.");
        b.fault(7, "program a; type t(n: integer) = array [1..n * maxint] of char; v = t(2)`; begin end.");
        b.good("program a; type t(n: integer) = array [1..5 div 0 + n] of char; begin end.");
    }

    private static void known(Bench b) {
        b.good("program a; const c = maxint; d = -maxint; e = -maxint div 1; begin end.");
        b.fault(7, "program a; const c = maxint + 1`; begin end.");
        b.fault(7, "program a; const c = -maxint - 1`; begin end.");
        b.fault(7, "program a; const c = 65536 * 65536`; begin end.");
        b.fault(7, "program a; const c = 5 div 0`; begin end.");
        b.fault(7, "program a; const c = 5 mod 0`; begin end.");
        b.fault(7, "program a; const c = 5 mod (-3)`; begin end.");
        b.fault(7, "program a; const c = chr(256)`; begin end.");
        b.fault(7, "program a; const c = chr(-1)`; begin end.");
        b.fault(7, "program a; const c = succ(maxint)`; begin end.");
        b.fault(7, "program a; const c = pred(false)`; begin end.");
        b.fault(7, "program a; type t = (x, y); const c = succ(y)`; begin end.");
        b.fault(7, "program a; const c = 5 div 0 + 1`; begin end.");
        b.fault(7, "program a; const c = (5 div 0) + 1`; begin end.");
        b.fault(7, "program a; type t = 5 div 0`..3; begin end.");
        b.fault(7, "program a; type t = string(5 div 0`); begin end.");
        b.fault(7, "program a; begin case 1 of 5 div 0`: end end.");
        b.fault(7, "program a; var x: integer value maxint + 1`; begin end.");
        b.good("program a; var x: integer; begin x := 5 div 0 end.");
        b.writes("program a; const c = -7 mod 3; d = (-7) mod 3; e = (-7) div 2; f = chr(65); g = succ('a'); begin write(c, d, e, f, g) end.", "-12-3Ab");
    }

    private static void deep(Bench b) {
        // The program's own statements stand at 1.
        b.good("program a; var x: integer; begin x := " + times(39, "(") + "1" + times(39, ")") + " end.");
        b.fault(8, "program a; var x: integer; begin x := " + times(39, "(") + "`(1" + times(40, ")") + " end.");
        b.good("program a; const c = " + times(40, "(") + "1" + times(40, ")") + "; begin end.");
        b.fault(8, "program a; const c = " + times(40, "(") + "`(1" + times(41, ")") + "; begin end.");
        b.good("program a; begin write(" + times(38, "(") + "1" + times(38, ")") + ") end.");
        b.fault(8, "program a; begin write(" + times(38, "(") + "`(1" + times(39, ")") + ") end.");
        b.good("program a; begin write(" + times(38, "not ") + "true) end.");
        b.fault(8, "program a; begin write(" + times(38, "not ") + "`not true) end.");
        b.good("program a; begin write(" + times(38, "abs(") + "1" + times(39, ")") + " end.");
        b.fault(8, "program a; begin write(" + times(38, "abs(") + "abs`(1" + times(40, ")") + " end.");
        b.fault(2, "program a; function f: integer; begin end; begin write(" + times(38, "abs(") + "f`(1" + times(40, ")") + " end.");
        b.fault(2, "program a; begin write(" + times(38, "(") + "eof`(1" + times(40, ")") + " end.");
        b.good("program a; var x: array [1..2] of integer; begin x[" + times(38, "x[") + "1" + times(38, "]") + "] := 1 end.");
        b.fault(8, "program a; var x: array [1..2] of integer; begin x[" + times(38, "x[") + "x`[1" + times(39, "]") + "] := 1 end.");
        b.good("program a; begin write(1 in " + times(37, "(") + "[" + "]" + times(37, ")") + ") end.");
        b.fault(8, "program a; begin write(1 in " + times(38, "(") + "`[" + "]" + times(38, ")") + ") end.");
        b.good("program a; begin " + times(39, "begin ") + times(39, "end ") + "end.");
        b.fault(8, "program a; begin " + times(39, "begin ") + "begin `end " + times(39, "end ") + "end.");
        b.good("program a; begin " + times(39, "if true then ") + "end.");
        b.fault(8, "program a; begin " + times(40, "if true then ") + "`end.");
        b.fault(8, "program a; begin " + times(40, "if true then ") + "`writeln end.");
        // The statements of a routine stand one deeper than it.
        b.good("program a; " + times(39, "procedure p; ") + "begin " + times(39, "end; begin ") + "end.");
        b.fault(8, "program a; " + times(40, "procedure p; ") + "begin `end; begin end.");
        b.fault(8, "program a; " + times(40, "procedure p; ") + "`procedure p; begin end; begin end.");
        String with = "program a; type r = record x: integer end; var v: r; begin with ";
        b.good(with + times(38, "v, ").substring(0, 38 * 3 - 2) + " do x := 1 end.");
        b.fault(8, with + times(39, "v, ").substring(0, 39 * 3 - 2) + " do `x := 1 end.");
        b.fault(8, with + times(39, "v, ") + "`v do x := 1 end.");
    }

    private static void deepTypes(Bench b) {
        // A type of the program stands at 1, its index at 2.
        b.good(type(times(39, "array [1..1] of ") + "char"));
        b.fault(8, type(times(39, "array [1..1] of ") + "array [`1..1] of char"));
        b.good(type("array [" + times(38, "1..1, ") + "1..1] of char"));
        b.fault(8, type("array [" + times(39, "1..1, ") + "`1..1] of char"));
        b.good(type("array [" + times(37, "1..1, ") + "1..1] of array [1..1] of char"));
        b.fault(8, type("array [" + times(38, "1..1, ") + "1..1] of array [`1..1] of char"));
        b.good(type(times(39, "record x: ") + "char" + times(39, " end")));
        b.fault(8, type(times(40, "record x: ") + "`char" + times(40, " end")));
        b.fault(8, type(times(39, "array [1..1] of ") + "set of `boolean"));
        b.good(type(times(38, "array [1..1] of ") + "set of boolean"));
        // The first constant of a case stands one deeper than its record, all of the case with it.
        b.good(type("record " + cases(39) + times(39, ")") + " end"));
        b.fault(8, type("record " + cases(39) + "case l: char of `'a': ()" + times(39, ")") + " end"));
        b.good(type("record " + cases(38) + "x: char" + times(38, ")") + " end"));
        b.fault(8, type("record " + cases(39) + "x: `char" + times(39, ")") + " end"));
        b.good(type("record case k: char of chr" + times(38, "(") + "1" + times(38, ")") + ": () end"));
        b.fault(8, type("record case k: char of chr(" + times(37, "(") + "`(1" + times(39, ")") + ": () end"));
        b.good(type("1..(1)"));
        b.good(type("1.." + times(39, "(") + "1" + times(39, ")")));
        b.fault(8, type("1.." + times(39, "(") + "`(1" + times(40, ")")));
        b.fault(8, "program a; var x: " + times(40, "record x: ") + "`char" + times(40, " end") + "; begin end.");
        b.fault(8, "program a; procedure p; type t = " + times(39, "record x: ") + "`char" + times(39, " end") + "; begin end; begin end.");
    }

    private static String cases(int n) {
        StringBuilder b = new StringBuilder();
        for (int i = 0; i < n; i++) {
            b.append("case k").append(i).append(": char of 'a': (");
        }
        return b.toString();
    }

    private static void tall(Bench b) {
        StringBuilder text = new StringBuilder("program a; type t1 = char; ");
        for (int i = 2; i <= 60; i++) {
            text.append("t").append(i).append(" = ").append(i % 2 == 0 ? "array [1..1] of t" : "record x: t").append(i - 1).append(i % 2 == 0 ? "; " : " end; ");
        }
        b.good(text + "begin end.");
        b.good(text + "t = ^t60; begin end.");
        b.fault(8, text + "t = array [1..1] of t60`; begin end.");
        b.fault(8, text + "t = record x: t60 end`; begin end.");
        b.fault(8, text + "t = array [1..1, 1..1] of t59`; begin end.");
        b.good(text + "t = array [1..1, 1..1] of t58; begin end.");
        b.good(text + "t(n: integer) = record x: t57 end; u = t(1); begin end.");
        b.fault(8, text + "t(n: integer) = record x: t58 end; u = t(1)`; begin end.");
        b.fault(8, text + "t(n: integer) = record x: t60 end`; begin end.");
        b.good(text + "t(n: integer) = record x: t59 end; u = ^t; begin end.");
        b.good(text + "u = record x: set of boolean end; begin end.");
        // What is too tall counts before what is no ordinal.
        b.fault(5, text + "u = set of t59`; begin end.");
        b.fault(8, text + "u = set of t60`; begin end.");
        b.fault(5, text + "u = array [1..1] of set of t58`; begin end.");
        b.fault(8, text + "u = array [1..1] of set of t59`; begin end.");
        b.fault(8, text + "u = array [1..1] of array [1..1] of set of t58`; begin end.");
        b.fault(5, text + "u = record x: set of t59`; end; begin end.");
        b.fault(8, text + "u = array [array [1..1] of set of t59`] of char; begin end.");
        b.fault(8, text + "t(n: integer) = record x: t55 end; u = array [1..1, 1..1] of set of t(1)`; begin end.");
    }

    private static void pieces(Bench b) {
        // 1 + 62 * 63 + 62 + ... : made by names, each of which counts.
        String head = "program a; type t = record " + names(61) + ": char end; u = record " + names(62) + ": t; ";
        // t has 62 pieces, 62 of them 3844, the record 1: 155 more may come.
        b.good(head + "y: record " + names(153) + ": char end; z: char end; begin end.");
        b.fault(8, head + "y: record " + names(154) + ": char end; z: char end`; begin end.");
        b.fault(8, head + "y: record " + names(154) + ": char end; case z: boolean of true: () end`; begin end.");
        b.good(head + "case z: boolean of true: (" + prefixed("v", 77) + ": char); false: (" + prefixed("w", 77) + ": char) end; begin end.");
        b.fault(8, head + "case z: boolean of true: (" + prefixed("v", 77) + ": char); false: (" + prefixed("w", 78) + ": char) end`; begin end.");
        String more = head + "y: record " + names(152) + ": char end; z: char end; ";
        b.good(more + "v = array [1..1] of u; begin end.");
        b.fault(8, more + "v = array [1..1, 1..1] of u`; begin end.");
        b.fault(8, more + "v = record x: array [1..1] of u end`; begin end.");
        b.fault(5, more + "v = set of array [1..1] of u`; begin end.");
        b.fault(8, more + "v = set of array [1..1, 1..1] of u`; begin end.");
        b.fault(8, more + "v = array [1..1] of set of array [1..1, 1..1] of u`; begin end.");
        b.good("program a; type t = array [1..4000] of char; begin end.");
        String schema = head.replace("u = ", "u(n: boolean) = ") + "y: record " + names(152) + ": char end; z: char end; v = u(true)";
        b.good(schema + "; begin end.");
        b.fault(8, schema.replace(names(152), names(153)) + "`; begin end.");
    }

    private static String names(int n) {
        return prefixed("x", n);
    }

    private static String prefixed(String prefix, int n) {
        StringBuilder b = new StringBuilder();
        for (int i = 0; i < n; i++) {
            b.append(i == 0 ? "" : ",").append(prefix).append(i);
        }
        return b.toString();
    }

    private static void counts(Bench b) {
        b.good("program a; type t(a, b, c, d: integer) = array [1..a] of char; begin end.");
        b.fault(8, "program a; type t(a, b, c, d, e: integer`) = array [1..a] of char; begin end.");
        b.fault(8, "program a; type t(a, b, c: integer; d, e: char`; f: char) = array [1..a] of char; begin end.");
        b.good("program a; procedure p(" + names(10) + ": char); begin end; begin end.");
        b.fault(8, "program a; procedure p(" + names(10) + ", `x: char); begin end; begin end.");
        b.fault(8, "program a; procedure p(" + names(10) + ": char; var `x0: char); begin end; begin end.");
        String vec = "program a; type vec(n: integer) = array [1..n] of char; v3 = vec(3); ";
        b.good(vec + "var x, y: vec(3); u, v: v3; begin end.");
        b.fault(8, vec + "var x, y, z: vec(3)`; begin end.");
        b.fault(8, vec + "var x, y, z: v3`; begin end.");
        b.good(vec + "var x, y, z: array [1..2] of v3; begin end.");
        b.fault(7, vec + "var x, y, z: vec(0)`; begin end.");
        b.fault(8, vec + "var q: integer; x, y, z: vec(q)`; begin end.");
        String fields = "program a; type r = record " + names(999) + ": char; case k: boolean of true: (y: char); false: () end; var v, w: r; begin ";
        // 1001 fields each
        b.good(fields + "with v, v, v do; with v, w do end.");
        b.fault(8, fields + "with v, v, v, v` do end.");
        b.fault(8, fields + "with v, v do with v do with v` do end.");
        b.good(fields + "with v, v, v do; with v, v, v do end.");
    }

    private static void cases(Bench b) {
        String head = "program a; type c = (red, green, blue); d = 1..5; var i: d; o: c; begin ";
        b.good(head + "case i of 1, 3..4: ; 2: ; 100: end; case o of green..blue, red: end; case 'a' of 'b', 'd'..'f': end; case true of false: end end.");
        b.fault(9, head + "case i of 'ab'`: end end.");
        b.fault(9, head + "case i of 'a'`: end end.");
        b.fault(9, head + "case i of true`: end end.");
        b.fault(9, head + "case i of 1..'a'`: end end.");
        b.fault(9, head + "case i of 'a'..1`: end end.");
        b.fault(9, head + "case i of 'ab'..1`: end end.");
        b.fault(9, head + "case i of 5..3`: end end.");
        b.fault(9, head + "case i of 1, 1`: end end.");
        b.fault(9, head + "case i of 1: ; 2, 1`: end end.");
        b.fault(9, head + "case i of 1..5: ; 3`: end end.");
        b.fault(9, head + "case i of 3: ; 1..5`: end end.");
        b.good(head + "case i of 3: case i of 3: end end; case i of 3: end end.");
        b.fault(9, head + "case i of 3: case i of 3: end; 3`: end end.");
        String rec = "program a; type c = (red, green, blue); d = 1..5; r = record case k: d of ";
        b.good(rec + "1: (); 2..3, 5: () end; begin end.");
        b.fault(9, rec + "0`: () end; begin end.");
        b.fault(9, rec + "6`: () end; begin end.");
        b.fault(9, rec + "4..6`: () end; begin end.");
        b.fault(9, rec + "1: (); 1`: () end; begin end.");
        b.fault(9, rec + "1, 2..3: (); 3..4`: () end; begin end.");
        b.fault(9, rec + "red`: () end; begin end.");
        b.fault(9, rec + "'ab'`: () end; begin end.");
        b.good(rec + "1: (case l: d of 1: ()); 2: (case m: c of red: ()) end; begin end.");
    }
}
