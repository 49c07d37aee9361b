/** Each boundary that a sentence of the document names: the last that may be, and the first that may not. */
public final class EdgesTest {
    public static void main(String[] args) {
        Bench b = new Bench("edges");
        words(b);
        depthOfStatements(b);
        depthOfSums(b);
        depthOfTypes(b);
        sizes(b);
        cellsThatAreMade(b);
        fieldsOfWiths(b);
        valuesOfSchemata(b);
        activations(b);
        roomOfActivations(b);
        roomOfThings(b);
        numbers(b);
        parts(b);
        loopsAndCases(b);
        tagsThatWereUndefined(b);
        inputThatIsRead(b);
        inputThatGoesRound(b);
        tapeThatIsCut(b);
        ends(b);
        refusedCalls(b);
        manyBytes(b);
        b.close();
    }

    private static String times(int n, String s) {
        StringBuilder b = new StringBuilder();
        for (int i = 0; i < n; i++) {
            b.append(s);
        }
        return b.toString();
    }

    /** The names from that one to that one, with commas. */
    private static String names(String prefix, int from, int to) {
        StringBuilder b = new StringBuilder();
        for (int i = from; i <= to; i++) {
            b.append(i == from ? "" : ", ").append(prefix).append(i);
        }
        return b.toString();
    }

    private static void words(Bench b) {
        b.writes("program a; begin write('a b', '\u007f', '\u0080') end.", "a b\u007f\u0080");
        b.fault(1, "program a; begin write(`'a\u001fb') end.");
        b.fault(1, "program a; begin write(`'a\0') end.");
        b.fault(1, "program a; begin write(`'" + times(81, "''") + "') end.");
        b.writes("program a; begin write('" + times(80, "''") + "') end.", times(80, "'"));
        String twenty = "abcdefghijklmnopqrst";
        b.writes("program a; var " + twenty + ", abcdefghijklmnopqrsu: integer; begin " + twenty + " := 1; abcdefghijklmnopqrsu := 2; write(ABCDEFGHIJKLMNOPQRST) end.", "1");
        b.fault(1, "program `" + twenty + "u; begin end.");
        b.fault(1, "program a; begin `" + times(3000, "x") + " end.");
        b.writes("program a; begin write(2#1111111111111111111111111111111, ' ', 36#zik0zj, ' ', 3#2, ' ', 16#0000000007fffffff) end.", "2147483647 2147483647 2 2147483647");
        b.fault(1, "program a; begin write(`2#10000000000000000000000000000000) end.");
        b.fault(1, "program a; begin write(`36#zik0zk) end.");
        b.fault(1, "program a; begin write(`3#3) end.");
        b.fault(1, "program a; begin write(`2#) end.");
        b.fault(1, "program a; begin write(`36#_) end.");
        b.fault(1, "program a; begin write(`1a) end.");
        b.fault(1, "program a; begin write(`1#) end.");
        b.writes("program a; begin {}(**){*)(*}write(1) end.", "1");
        b.fault(1, "program a; begin write(1) end.`(*)");
        b.fault(2, "program a; begin write(1) end` ");
        b.fault(1, "program a;`\u000bbegin end.");
        b.fault(1, "program a;`\u00a0begin end.");
        b.fault(1, "program a; begin end. `#");
        b.fault(2, "program a; `");
    }

    /** What stands in 39 statements stands at 40: one more is too deep. */
    private static void depthOfStatements(Bench b) {
        String head = "program a; var i: integer; r: record x: integer end; procedure p(n: integer); begin end; begin ";
        String open = times(38, "begin ");
        String close = times(38, " end") + " end.";
        String[] inner = {"if true then `", "if true then `else", "while true do `", "repeat `until true", "for i := 1 to 2 do `", "case 1 of 1: `end", "case 1 of 1: `; 2: end",
            "case 1 of 1: `otherwise end", "begin `end"};
        for (String s : inner) {
            String at = s.replace("`", "");
            b.good(head + open + at + close);
            b.fault(8, head + open + "begin " + s + " end" + close);
        }
        b.fault(8, head + open + "begin if true then `i := 1 else i := 2 end" + close);
        b.fault(8, head + open + "begin case 1 of 1: `i := 1 otherwise end end" + close);
        b.good(head + times(37, "begin ") + "with r do x := 1" + times(37, " end") + " end.");
        b.fault(8, head + open + "with r do `x := 1" + close);
        b.fault(8, head + open + "begin with `r do x := 1 end" + close);
        b.fault(8, head + open + "with r, `r do x := 1" + close);
        b.good(head + open + "p(1)" + close);
        b.fault(8, head + open + "begin p`(1) end" + close);
        b.fault(8, head + open + "begin write`(1) end" + close);
        b.fault(8, head + open + "begin read`(i) end" + close);
        b.fault(5, head + open + "begin p` end" + close);
    }

    private static void depthOfSums(Bench b) {
        String head = "program a; var i: integer; q: ^integer; v: array [1..2] of integer; function f(n: integer): integer; begin f := n end; procedure p(n: integer); begin end; begin ";
        b.good(head + "i := " + times(39, "f(") + "1" + times(39, ")") + " end.");
        b.fault(8, head + "i := " + times(39, "f(") + "f`(1" + times(40, ")") + " end.");
        b.good(head + "p(" + times(38, "f(") + "1" + times(39, ")") + " end.");
        b.fault(8, head + "p(" + times(38, "f(") + "f`(1" + times(40, ")") + " end.");
        b.good(head + "read(v[" + times(37, "f(") + "1" + times(37, ")") + "]) end.");
        b.fault(8, head + "read(v[" + times(38, "f(").substring(0, 38 * 2 - 1) + "`(1" + times(38, ")") + "]) end.");
        b.good(head + "i := card(" + times(37, "(") + "[]" + times(37, ")") + ") end.");
        b.fault(8, head + "i := card(" + times(38, "(") + "`[]" + times(38, ")") + ") end.");
        b.good(head + "i := ord(" + times(38, "not ") + "true) end.");
        b.fault(8, head + "i := ord(" + times(38, "not ") + "`not true) end.");
        // A routine of the program stands at 1, its statements at 2, its constants' brackets behind it.
        b.good("program a; procedure p; const c = " + times(39, "(") + "1" + times(39, ")") + "; begin end; begin end.");
        b.fault(8, "program a; procedure p; const c = " + times(39, "(") + "`(1" + times(40, ")") + "; begin end; begin end.");
        b.good("program a; procedure p; begin write(" + times(37, "(") + "1" + times(37, ")") + ") end; begin end.");
        b.fault(8, "program a; procedure p; begin write(" + times(37, "(") + "`(1" + times(38, ")") + ") end; begin end.");
        b.good("program a; procedure p; begin " + times(38, "begin ") + times(38, "end ") + "end; begin end.");
        b.fault(8, "program a; procedure p; begin " + times(38, "begin ") + "begin `end " + times(38, "end ") + "end; begin end.");
        // What takes nothing has no bracket, however deep; what misses its brackets is told of behind its name.
        b.fault(5, head + "i := " + times(39, "f(") + "f`" + times(39, ")") + " end.");
        b.fault(2, "program a; procedure p; begin end; begin " + times(39, "begin ") + "p`(1) " + times(39, "end ") + "end.");
        b.fault(2, "program a; begin " + times(39, "begin ") + "halt`(1) " + times(39, "end ") + "end.");
        b.fault(2, "program a; " + times(38, "procedure p; ") + "procedure q; forward; procedure q`(x: char); begin end; begin end.");
    }

    private static void depthOfTypes(Bench b) {
        String close = "; begin end.";
        // The type of a schema stands at 1; its span's bracket and its values deeper.
        b.good("program a; type t(n: integer) = " + times(39, "record x: ") + "char" + times(39, " end") + close);
        b.fault(8, "program a; type t(n: integer) = " + times(40, "record x: ") + "`char" + times(40, " end") + close);
        b.good("program a; type t(n: integer) = array [1..n] of char; u = " + times(39, "record x: ") + "t(1)" + times(39, " end") + close);
        b.fault(8, "program a; type t(n: integer) = array [1..n] of char; u = " + times(39, "record x: ") + "t(`(1))" + times(39, " end") + close);
        b.good("program a; type u = " + times(39, "record x: ") + "string(1)" + times(39, " end") + close);
        b.fault(8, "program a; type u = " + times(39, "record x: ") + "string(`(1))" + times(39, " end") + close);
        b.good("program a; type u = " + times(39, "record x: ") + "(c)" + times(39, " end") + close);
        b.good("program a; type u = " + times(39, "record x: ") + "^char" + times(39, " end") + close);
        b.fault(8, "program a; type u = " + times(39, "record x: ") + "set of `boolean" + times(39, " end") + close);
        b.fault(8, "program a; type u = " + times(39, "record x: ") + "array [`boolean] of char" + times(39, " end") + close);
        b.good("program a; type u = " + times(38, "record x: ") + "array [boolean] of char" + times(38, " end") + close);
        b.fault(8, "program a; type u = " + times(38, "record x: ") + "array [boolean, `boolean] of char" + times(38, " end") + close);
        b.fault(8, "program a; type u = " + times(39, "record x: ") + "record case k: boolean of `true: () end" + times(39, " end") + close);
        b.good("program a; type u = " + times(38, "record x: ") + "record case k: boolean of true: () end" + times(38, " end") + close);
        // All constants and fields of a case stand in its level, which ends with it.
        b.good("program a; type u = " + times(37, "record x: ") + "record case k: boolean of true: (a: char); (false): (b: char) end" + times(37, " end") + close);
        b.fault(8, "program a; type u = " + times(38, "record x: ") + "record case k: boolean of true: (a: `char) end" + times(38, " end") + close);
        b.fault(8, "program a; type u = " + times(38, "record x: ") + "record case k: boolean of true: (); `(false): () end" + times(38, " end") + close);
        b.fault(8, "program a; type u = " + times(37, "record x: ") + "record case k: boolean of true: (case l: boolean of true: (a: `char)) end" + times(37, " end") + close);
        b.good("program a; type u = " + times(37, "record x: ") + "record case k: boolean of true: (case l: boolean of true: ()) end; y: set of boolean" + times(37, " end") + close);
    }

    private static void sizes(Bench b) {
        b.good("program a; var x: string(80) value '" + times(80, "x") + "'; y: string(1) value 'y'; begin end.");
        b.fault(7, "program a; var x: string(79) value '" + times(80, "x") + "'`; begin end.");
        b.fault(7, "program a; var x: -1..1 value 2`; begin end.");
        b.fault(7, "program a; var x: -1..1 value -2`; begin end.");
        b.good("program a; var x: -1..1 value -1; y: -1..1 value 1; z: 'b'..'c' value 'c'; begin end.");
        b.fault(7, "program a; var z: 'b'..'c' value 'd'`; begin end.");
        b.good("program a; type t = array [0..3999] of char; u = array [char, 1..15] of char; begin end.");
        b.fault(7, "program a; type u = array [char, 1..16] of char`; begin end.");
        b.fault(7, "program a; type u = array [-maxint..maxint`] of char; begin end.");
        b.fault(7, "program a; type u = array [0..4000`] of char; begin end.");
        b.good("program a; type u = array [1..2] of array [1..2000] of char; v = record x, y: array [1..2000] of char end; begin end.");
        b.fault(7, "program a; type u = array [1..2] of array [1..2001] of char`; begin end.");
        b.fault(7, "program a; type v = record x, y: array [1..2000] of char; z: char end`; begin end.");
        b.fault(7, "program a; type v = record x, y: array [1..2000] of char; case z: boolean of true: () end`; begin end.");
        b.good("program a; type v = record case z: boolean of true: (x, y: string(80); q: array [1..3837] of char); false: (w: array [1..3999] of char) end; begin end.");
        b.fault(7, "program a; type v = record case z: boolean of true: (x, y: string(80); q: array [1..3838] of char); false: () end`; begin end.");
        b.good("program a; type u = set of 0..0; v = set of 63..63; w = set of '?'..'?'; begin end.");
        b.fault(7, "program a; type w = set of '?'..'@'`; begin end.");
        b.fault(7, "program a; type w = set of -1..-1`; begin end.");
        StringBuilder list = new StringBuilder(names("c", 0, 63));
        b.good("program a; type e = (" + list + "); u = set of e; begin end.");
        b.fault(7, "program a; type e = (" + list + ", c64); u = set of e`; begin end.");
        b.good("program a; type e = (" + list + ", c64); u = set of c0..c63; begin end.");
        // Of a schema: the inner array is known, the outer one is not.
        b.fault(7, "program a; type t(n: integer) = array [1..n, 1..4001`] of char; begin end.");
        b.fault(7, "program a; type t(n: integer) = array [1..n, 1..50, 1..81] of char`; begin end.");
        b.good("program a; type t(n: integer) = array [1..n, 1..50, 1..80] of char; u = t(1); begin end.");
        b.fault(7, "program a; type t(n: integer) = array [1..n, 1..50, 1..80] of char; u = t(2)`; begin end.");
        b.good("program a; type t(n: integer) = array [1..50, 1..n, 1..80] of char; begin end.");
        b.good("program a; procedure p(" + names("x", 1, 5) + ": char; var " + names("y", 1, 5) + ": char); begin end; begin end.");
        b.fault(8, "program a; procedure p(" + names("x", 1, 5) + ": char; var " + names("y", 1, 5) + ", `z: char); begin end; begin end.");
        b.good("program a; type t(a, b: char; c, d: boolean) = array [a..b, c..d] of char; begin end.");
        b.fault(8, "program a; type t(a, b: char; c, d: boolean; e: char`) = array [a..b, c..d] of char; begin end.");
        // Too many counts before what is no ordinal.
        b.fault(8, "program a; type u = record end; t(a, b, c, d: boolean; e: u`) = array [a..b] of char; begin end.");
        b.fault(5, "program a; type u = record end; t(a, b, c: boolean; e: u`) = array [a..b] of char; begin end.");
    }

    /** A type that is made when the program runs: the last that may be so, and error 2. */
    private static void cellsThatAreMade(Bench b) {
        String[] types = {"array [1..n] of char", "array [0..n - 1] of char", "record x: array [1..n - 1] of char; y: char end", "record case k: boolean of true: (x: array [2..n] of char); false: () end",
            "array [1..2, 1..n div 2] of char", "record x: array [1..n] of char; y: array [1..n] of record end end"};
        for (String t : types) {
            b.writes("program a; type t(n: integer) = " + t + "; var q: integer value 4000; x: t(q); begin write(x.n) end.", "4000");
            b.error(2, "`program a; type t(n: integer) = " + t + "; var q: integer value 4002; x: t(q); begin end.", "");
            b.writes("program a; type t(n: integer) = " + t + "; var q: ^t; begin new(q, 4000); write(q^.n) end.", "4000");
            b.error(2, "program a; type t(n: integer) = " + t + "; var q: ^t; begin `new(q, 4002) end.", "");
            b.good("program a; type t(n: integer) = " + t + "; var x: t(4000); begin end.");
            b.fault(7, "program a; type t(n: integer) = " + t + "; var x: t(4002)`; begin end.");
        }
        String strings = "program a; type t(n: integer) = array [1..1] of string(n); var p: ^t; begin ";
        b.writes(strings + "new(p, 1); new(p, 80); write(1) end.", "1");
        b.error(2, strings + "`new(p, 81) end.", "");
        b.error(2, strings + "`new(p, 0) end.", "");
        String sets = "program a; type t(n, m: integer) = array [1..1] of set of n..m; var p: ^t; begin ";
        b.writes(sets + "new(p, 0, 63); new(p, 63, 63); new(p, 0, 0); write(1) end.", "1");
        b.error(2, sets + "`new(p, 0, 64) end.", "");
        b.error(2, sets + "`new(p, -1, 3) end.", "");
        b.error(2, sets + "`new(p, 4, 3) end.", "");
        String spans = "program a; type t(n, m: integer) = record x: n..m end; var p: ^t; begin ";
        b.writes(spans + "new(p, -maxint, maxint); p^.x := maxint; write(p^.x); new(p, 4, 4); p^.x := 4 end.", "2147483647");
        b.error(2, spans + "`new(p, 5, 4) end.", "");
        b.error(2, spans + "new(p, 4, 4); p^.x `:= 5 end.", "");
        String steps = "program a; type t(n: integer) = record x: 0..%s end; var p: ^t; begin new(p, 1); write(p^.n); `new(p, 0) end.";
        b.error(2, steps.replace("%s", "5 div n"), "1");
        b.error(2, steps.replace("%s", "5 mod n"), "1");
        b.error(2, steps.replace("%s", "ord(pred(n > 0))"), "1");
        b.error(2, steps.replace("%s", "ord(chr(n - 1))").replace("new(p, 1)", "new(p, 256)").replace("write(p^.n)", "write(1)"), "1");
        b.error(2, steps.replace("%s", "maxint - 1 + n").replace("`new(p, 0)", "`new(p, 2)"), "1");
        b.error(2, steps.replace("%s", "-maxint * n").replace("0..", "-maxint..").replace("new(p, 0)", "new(p, 2)"), "1");
        b.error(2, steps.replace("%s", "succ(maxint - 1 + n)").replace("`new(p, 0)", "`new(p, 1)").replace("new(p, 1); write", "new(p, 0); write"), "0");
    }

    private static void fieldsOfWiths(Bench b) {
        String text = "program a; type r = record " + names("f", 1, 999) + ": char; case k: boolean of true: (); false: () end; s = record x: char end; e = record end;"
                + " var v: r; w: s; z: e; begin ";
        // 1000 fields each; that of nothing has none.
        b.good(text + "with v, v, v, v do; with v, v, v, v, z do end.");
        b.fault(8, text + "with v, v, v, v, w` do end.");
        b.fault(8, text + "with v, v, v, v do with z, w` do end.");
        b.fault(8, text + "with w, v, v, v, v` do end.");
        b.good(text + "with v, v do with v, v do; with w, v, v, v do end.");
        b.good("program a; type r = record case k: boolean of true: (" + names("f", 1, 1000) + ": char); false: (" + names("g", 1, 999) + ": char) end; var v: r; begin with v, v do end.");
        b.fault(8, "program a; type r = record case k: boolean of true: (" + names("f", 1, 1000) + ": char); false: (" + names("g", 1, 1000) + ": char) end; var v: r; begin with v, v` do end.");
    }

    private static void valuesOfSchemata(Bench b) {
        String t = "program a; type d = 1..9; c = (red, green, blue); t(n: d; m: integer) = array [1..n] of string(m); u(b: boolean; e: c; h: char) = record x: red..e end; ";
        b.good(t + "x = t(1, 1); y = t(9, 80); z = u(true, blue, 'a'); begin end.");
        b.fault(7, t + "x = t(0, 1)`; begin end.");
        b.fault(7, t + "x = t(10, 1)`; begin end.");
        b.fault(7, t + "x = t(1, 81)`; begin end.");
        b.fault(7, t + "s(n: integer) = record x: t(n, 3) end; y = s(10)`; begin end.");
        b.fault(7, t + "s(n: integer) = record x: t(3, n) end; y = s(0)`; begin end.");
        b.good(t + "s(n: integer) = record x: t(n, 3) end; y = s(9); begin end.");
        // With one that is not KNOWN all are looked at when it is made.
        b.error(2, "`" + t + "var q: integer value 3; x: t(0, q); begin end.", "");
        b.error(2, "`" + t + "var q: integer value 3; x: t(q, 81); begin end.", "");
        b.writes(t + "var q: integer value 9; x: t(q, 80); begin write(x.n, x.m) end.", "980");
        b.fault(7, t + "var q: integer value 3; x: t(5 div 0`, q); begin end.");
        b.error(7, t + "var q: integer value 0; x: t(5 `div q, q); begin end.", "");
        // Two names share a schema's values, worked out anew for each.
        b.writes("program a; type v(n: integer) = array [1..n] of char; function f: integer; forward; var i: integer value 0; x, y: v(f); function f; begin i := i + 1; f := i end; begin write(x.n, y.n, i) end.", "122");
        b.writes("program a; type v(n: integer) = array [1..n] of char; var i: integer value 2; x: v(i); y: v(x.n + 1); begin write(x.n, y.n) end.", "23");
        b.error(2, "program a; type v(n: integer) = array [1..n] of char; procedure `p(n: integer); var x: v(n); begin write(n) end; begin p(1); p(0) end.", "1");
        b.error(2, "program a; type v(n: integer) = array [1..n] of char; procedure p(n: integer); var x: v(1); begin write(n) end; procedure q(n: integer); var x: ^v; begin new(x, 1); `new(x, n) end; begin p(0); q(0) end.", "0");
    }

    private static void activations(Bench b) {
        // The program is one of a hundred.
        b.writes("program a; procedure p(n: integer); begin if n > 1 then p(n - 1) end; begin p(99); write(1) end.", "1");
        SchemaPascal x = b.error(11, "program a; procedure `p(n: integer); begin if n > 1 then p(n - 1) end; begin p(99); write(1); p(100) end.", "1");
        b.due("activations", x.told(4), 100);
        b.due("the innermost", x.value(0, 0, 0), 2);
        b.due("the outermost", x.activation(99, 0), 0);
        b.thrown("no more", IndexOutOfBoundsException.class, () -> x.activation(100, 0));
        b.due("taken", x.told(5), 99 * 2);
        // They are there no more when they ended.
        b.writes("program a; var i: integer; procedure p; begin end; begin for i := 1 to 300 do p; write(1) end.", "1");
    }

    private static void roomOfActivations(Bench b) {
        SchemaPascal x = b.ran("program a; var u, v, w, y: array [1..4000] of char; z: array [1..3993] of char; c: char; begin c := chr(256) end.");
        b.due("all is taken", x.told(5), 20000);
        b.due("error", x.told(2), 2);
        x = b.error(11, "`program a; var u, v, w, y: array [1..4000] of char; z: array [1..3994] of char; c: char; begin c := 'a' end.", "");
        b.due("the last is not taken", x.told(5), 20000);
        String full = "program a; var u, v, w, y: array [1..4000] of char; z: array [1..3990] of char; %s";
        // 19995 are taken: a procedure with a value param takes two, one of a string of two four.
        b.writes(full.replace("%s", "procedure p(c: char); begin write(c) end; begin p('a') end."), "a");
        b.writes(full.replace("%s", "type s = string(3); procedure p(c: s); begin write(c) end; begin p('abc') end."), "abc");
        b.error(11, full.replace("%s", "type s = string(4); procedure `p(c: s); begin write(c) end; begin p('abc') end."), "");
        b.writes(full.replace("%s", "procedure p(var c: char); var d: string(2); begin c := 'c'; write(c) end; begin p(z[1]) end."), "c");
        b.error(11, full.replace("%s", "procedure `p(var c: char); var d: string(3); begin c := 'c'; write(c) end; begin p(z[1]) end."), "");
        b.writes(full.replace("%s", "type s = string(1); function f: s; var d: char; begin f := 'f' end; begin write(f) end."), "f");
        b.error(11, full.replace("%s", "type s = string(2); function `f: s; var d: char; begin f := 'f' end; begin write(f) end."), "");
        // What a with stands for is taken at once, though the with is never done.
        b.writes(full.replace("z: array [1..3990] of char;", "z: array [1..3990] of char; r: record x: char end;").replace("%s", "procedure p; begin if false then with r, r do with r do x := 'a'; write(1) end; begin p end."), "1");
        b.error(11, full.replace("z: array [1..3990] of char;", "z: array [1..3991] of char; r: record x: char end;").replace("%s", "procedure `p; begin if false then with r, r do with r do x := 'a'; write(1) end; begin p end."), "");
    }

    private static void roomOfThings(Bench b) {
        String text = "program a; type r = array [1..3999] of char; s = array [1..3998] of char; e = record end; v(n: integer) = array [1..n] of char; var p: ^r; q: ^s; o: ^e; c: ^char; d: ^v; begin new(p); new(p); new(p); new(p); ";
        SchemaPascal x = b.error(11, text + "new(q); new(o); `new(o) end.", "");
        b.due("all is taken", x.told(6), 20000);
        b.due("six are there", x.told(7), 6);
        b.thrown("no seventh", IndexOutOfBoundsException.class, () -> x.thing(7, 0));
        b.due("o points to the sixth", x.value(0, 2, 0), 6);
        b.error(11, text + "new(q); `new(c) end.", "");
        b.writes(text + "new(d, 3998); write(d^.n) end.", "3998");
        b.error(11, text + "`new(d, 3999) end.", "");
        b.writes("program a; type e = record end; var p: ^e; i: integer; begin for i := 1 to 9000 do new(p); dispose(p); write(1) end.", "1");
    }

    private static void numbers(Bench b) {
        b.writes("program a; var x: integer; begin x := maxint - 1; x := x + 1; x := -maxint + 1; x := x - 1; write(x, x * (-1)) end.", "-21474836472147483647");
        b.error(6, "program a; var x: integer; begin x := -maxint; x := x `+ (-1) end.", "");
        b.error(6, "program a; var x: integer; begin x := maxint; x := x `- (-1) end.", "");
        b.error(6, "program a; var x: integer; begin x := 1073741824; x := x `* 2 end.", "");
        b.error(6, "program a; var x: integer; begin x := -1073741824; x := x `* 2 end.", "");
        b.writes("program a; var x: integer; begin x := 1073741823; write(x * 2) end.", "2147483646");
        b.error(6, "program a; var x: integer; begin x := maxint; x := x `* x end.", "");
        b.error(6, "program a; begin write(sqr(-46340)); write(`sqr(-46341)) end.", "2147395600");
        b.writes("program a; begin write(0 div 5, 0 mod 1, 5 mod 1, -1 mod 5, (-1) mod 5, 4 mod 5, 5 mod 5, maxint mod maxint) end.", "000-14400");
        b.writes("program a; begin write((-7) div 7, ' ', (-6) div 7, ' ', 6 div (-7), ' ', (-8) div (-7)) end.", "-1 0 0 1");
        b.writes("program a; begin write(ord(chr(0)), ord(chr(255)), succ(maxint - 1), ' ', pred(1 - maxint), succ(false), ord(pred(chr(1))), ord(succ(chr(254)))) end.", "02552147483647 -2147483647true0255");
        b.error(2, "program a; begin write(`succ(chr(255))) end.", "");
        b.error(2, "program a; begin write(`pred(chr(0))) end.", "");
        b.error(2, "program a; begin write(`succ(true)) end.", "");
        b.writes("program a; begin write(63 in [63], 0 in [0], 64 in [0..63], -1 in [0..63], maxint in [0..63], chr(64) in ['?'], '?' in ['?']) end.", "truetruefalsefalsefalsefalsetrue");
        b.error(2, "program a; begin write(card([0..63])); write(card([63, `64])) end.", "64");
        b.error(2, "program a; begin write(card([`-1])) end.", "");
        b.error(2, "program a; begin write(card([64..63])); write(card([`63..64])) end.", "0");
        b.error(2, "program a; begin write(card([0..-1])); write(card([`-1..-1])) end.", "0");
        b.writes("program a; begin write(substr('abc', 1, 3), substr('abc', 3, 1), substr('abc', 4, 0), substr(substr('a', 1, 0), 1, 0), '.') end.", "abcc.");
        b.error(2, "program a; begin write(`substr('abc', 4, 1)) end.", "");
        b.error(2, "program a; begin write(`substr('abc', 1, 4)) end.", "");
        b.error(2, "program a; begin write(`substr('a', 2, 1)) end.", "");
        b.error(2, "program a; begin write(`substr('abc', -1, 1)) end.", "");
        String eighty = times(80, "x");
        b.writes("program a; begin write('" + eighty + "' + substr('a', 1, 0)) end.", eighty);
        b.error(2, "program a; var s: string(80); begin s := '" + eighty + "'; write(length(s)); s := s `+ 'y' end.", "80");
        b.error(2, "program a; begin write('y' `+ '" + eighty + "') end.", "");
        b.writes("program a; var s: string(2); begin s := 'ab'; s := substr(s, 2, 1); s := s + 'c'; write(s) end.", "bc");
        b.error(2, "program a; var s: string(2); begin s `:= 'abc' end.", "");
        b.error(2, "program a; var s: string(1); begin s := 'a'; write(s); s `:= s + s end.", "a");
        b.writes("program a; begin write(index('abc', 'c'), index('abc', 'abc'), index('abc', 'abcd'), index('abc', substr('a', 2, 0)), index('aab', 'ab'), index('a', 'b')) end.", "310120");
    }

    private static void parts(Bench b) {
        b.writes("program a; var v: array [-2..2, 'a'..'b'] of integer; begin v[-2, 'a'] := 1; v[2]['b'] := 2; write(v[-2]['a'], v[2, 'b']) end.", "12");
        b.error(2, "program a; var v: array [-2..2, 'a'..'b'] of integer; begin v`[-3, 'a'] := 1 end.", "");
        b.error(2, "program a; var v: array [-2..2, 'a'..'b'] of integer; begin v`[3, 'c'] := 1 end.", "");
        b.error(2, "program a; var v: array [-2..2, 'a'..'b'] of integer; begin v[2`, 'c'] := 1 end.", "");
        b.error(2, "program a; type c = (r, g, h); var v: array [g..h] of integer; begin v[g] := 1; v[h] := 2; write(v[h]); v`[r] := 3 end.", "2");
        b.error(2, "program a; type t(n: integer) = array [n..n + 1] of char; var v: t(-1); begin v[-1] := 'a'; v[0] := 'b'; write(v[0]); v`[1] := 'c' end.", "b");
        b.error(2, "program a; type t(n: integer) = array [n..n + 1] of char; var v: t(-1); begin v`[-2] := 'a' end.", "");
        b.error(2, "program a; type t(b: boolean) = array [false..b] of char; var v: t(false); begin v[false] := 'a'; write(v[false]); v`[true] := 'b' end.", "a");
    }

    private static void loopsAndCases(Bench b) {
        b.writes("program a; var i: 1..3; begin for i := 1 to 3 do write(i); for i := 3 downto 1 do write(i); for i := 3 to 3 do write(i); for i := 4 to 3 do write(i); for i := 0 downto 1 do write(i) end.", "1233213");
        b.error(2, "program a; var i: 1..3; begin for i := 3 to 3 do write(i); `for i := 4 to 4 do write(i) end.", "3");
        b.error(2, "program a; var i: 1..3; begin `for i := 1 to 4 do write(i) end.", "123");
        b.error(2, "program a; var i: 1..3; begin `for i := 3 downto 0 do write(i) end.", "321");
        b.writes("program a; var i: integer; begin for i := maxint to maxint do write(i); for i := -maxint downto -maxint do write(i) end.", "2147483647-2147483647");
        b.error(1, "program a; var i: integer; begin for i := 1 to 1 do write(i); write(`i) end.", "1");
        b.error(1, "program a; var i: integer; begin i := 7; for i := 1 to 0 do; write(`i) end.", "");
        // What the statement gives to the variable counts: beyond the second it ends.
        b.error(1, "program a; var i: integer; begin for i := 1 to 3 do begin write(i); if i = 2 then i := 9 end; write(`i) end.", "12");
        b.writes("program a; var i, n: integer; begin n := 0; for i := 3 downto 1 do begin n := n + 1; if n < 3 then i := i + 1 end; write(n) end.", "5");
        b.writes("program a; begin case 1 of 1..1: write(1) end; case -5 of -5: write(2); -maxint..-6, maxint: end; case maxint of 1: otherwise write(3) end; case chr(255) of chr(255): write(4) end end.", "1234");
        b.error(8, "program a; begin `case 3 of 1..2, 4: end end.", "");
        b.error(8, "program a; begin `case 'b' of 'a', 'c'..'d': end end.", "");
        b.writes("program a; var i: integer; begin i := 0; repeat i := i + 1 until true; while false do i := 9; write(i) end.", "1");
    }

    /** A tag that is UNDEFINED though its variants have something: it makes them UNDEFINED, whatever it gets. */
    private static void tagsThatWereUndefined(Bench b) {
        String text = "program a; type h = record case k: boolean of true: (x: integer); false: (y: integer) end; r = record case o: boolean of true: (t: h); false: (i: char; j: integer) end; var v: r;"
                + " procedure q(var z: h); begin v.o := false; v.i := 'a'; v.j := 4; write(v.j); z.k := true; %s end; begin v.o := true; v.t.k := true; q(v.t) end.";
        b.error(1, text.replace("%s", "write(z`.x)"), "4");
        b.error(1, text.replace("%s", "write(v`.j)"), "4");
        b.writes(text.replace("%s", "z.x := 5; z.k := true; write(z.x); write(v.j)"), "455");
        b.error(1, text.replace("%s", "z.x := 5; z.k := false; write(z`.y)"), "4");
        // The number before was none of the tag's type: UNDEFINED, too.
        String span = "program a; type d = 1..2; h = record case k: d of 1: (x: integer); 2: (y: integer) end; r = record case o: boolean of true: (t: h); false: (i: integer; j: integer) end; var v: r;"
                + " procedure q(var z: h); begin v.o := false; v.i := %s; v.j := 4; z.k := 1; write(z`.x) end; begin v.o := true; v.t.k := 1; q(v.t) end.";
        b.error(1, span.replace("%s", "3"), "");
        b.writes(span.replace("%s", "1").replace("`", ""), "4");
        b.error(1, span.replace("%s", "2"), "");
        // Numbers without a variant count as one.
        b.error(1, "program a; var v: record case k: integer of 1: (x: integer); 5: () end; begin v.k := 1; v.x := 3; v.k := 1; write(v.x); v.k := 7; v.k := 8; v.k := 1; write(v`.x) end.", "3");
    }

    private static void inputThatIsRead(Bench b) {
        b.writes("program a; var x: integer; begin read(x); write(x); read(x); write(x, eof) end.", "-21474836472147483647true", -2147483647, 2147483647);
        SchemaPascal x = b.error(2, "program a; var x: integer; y: -1..1; begin read(y, y); write(y); `read(x, y) end.", "1", -1, 1, 5, 2);
        b.due("the first went in", x.value(0, 0, 0), 5);
        b.due("the second stays", x.told(9), 1);
        b.due("y stays", x.value(0, 1, 0), 1);
        b.error(12, "program a; var x: integer; begin write(eof); `read(x) end.", "true");
        // The variable is worked out before the number is looked at.
        b.error(2, "program a; var v: array [1..2] of integer; begin read(v`[3]) end.", "");
        b.error(4, "program a; var p: ^integer; begin p := nil; read(p`^) end.", "");
    }

    /** More numbers than the input has room for, some of them read in between: they come in their order. */
    private static void inputThatGoesRound(Bench b) {
        SchemaPascal x = b.compiled("program a; var i, n: integer; begin n := 0; while not eof do begin read(i); n := n + 1; if i <> n then n := 1 div 0 end; write(n) end.");
        x.start();
        int put = 0;
        for (int turn = 0; turn < 5; turn++) {
            while (x.told(9) < 1000) {
                put++;
                x.input(put);
            }
            b.thrown("full", UnsupportedOperationException.class, () -> x.input(0));
            b.due("goes on", x.step(turn == 0 ? 1 + 1 + 4 * 700 : 4 * 700), 0);
            b.due("700 were read", x.told(9), 300);
        }
        b.due("to the end", x.step(20000), 1);
        b.due("all came in their order", Bench.written(x), Integer.toString(put));
        b.due("none is left", x.told(9), 0);
        b.due("one more", x.input(9), 1);
        x.start();
        b.due("it is not what is due now", x.step(20), 2);
        b.due("but it was read", x.value(0, 0, 0), 9);
    }

    private static void tapeThatIsCut(Bench b) {
        SchemaPascal x = new SchemaPascal();
        Bench.feed(x, "program a; begin write(1) end! and more");
        x.end("program a; begin write(1) end".length());
        Bench.feed(x, ".");
        b.due("bytes", x.told(11), 30);
        b.due("what is behind the end is gone", x.compile(), 0);
        Bench.feed(x, "program a; begin write(1) end.");
        x.end(30);
        b.due("its own length is no cut", x.compile(), 0);
        Bench.feed(x, "program a; begin write(1) end.");
        x.end(29);
        b.due("a byte less", x.compile(), -1 - 29);
        x.end(0);
        b.due("nothing", x.compile(), -1);
        b.due("2 at the tape's length", x.fault(), 2);
        x.feed(0x70726f67, 0x72616d20, 0x613b2062, 0x6567696e, 0x20656e64);
        x.feed(0x2e000000, 0, 0, 0, 0);
        b.due("bytes of 0 are no blanks", x.compile(), -1 - 21);
        b.due("no word", x.fault(), 1);
    }

    private static void ends(Bench b) {
        SchemaPascal x = b.ran("program a; var p: ^char; function f: integer; begin new(p); halt; f := 1 end; begin write(1 + f) end.");
        b.due("halt in a function ends all", x.told(0), 0);
        b.due("no error", x.told(2), 0);
        b.due("no activation", x.told(4), 0);
        b.due("nothing taken", x.told(5), 0);
        b.due("things stay", x.told(7), 1);
        b.due("nothing written", x.told(8), 0);
        b.due("steps", x.told(1), 3);
        SchemaPascal y = b.compiled("program a; var i: integer; begin for i := 1 to 3 do; halt; i := 5 end.");
        y.start();
        b.due("goes on", y.step(4), 0);
        b.due("halt", y.step(1), 1);
        b.due("not the last statement", y.told(1), 5);
        // With 0 steps nothing happens, and the last step goes up to the end.
        SchemaPascal z = b.compiled("program a; begin write(1); ; begin end end.");
        z.start();
        b.due("nothing", z.step(0), 0);
        b.due("nothing written", z.told(8), 0);
        b.due("to the end", z.step(1), 1);
        b.due("a step", z.told(1), 1);
        SchemaPascal w = b.compiled("program a; begin write(1) end.");
        w.start();
        b.due("more than there are", w.step(20000), 1);
        b.due("a step", w.told(1), 1);
        // An error in the middle of a step leaves what was done.
        SchemaPascal v = b.error(7, "program a; var i: integer; begin i := 3; write(i, 1 `div 0) end.", "3");
        b.due("the latest statement", v.activation(0, 3), "program a; var i: integer; begin i := 3; ".length());
    }

    /** What all told() of the object say. */
    private static String all(SchemaPascal x) {
        StringBuilder s = new StringBuilder();
        for (int what = 0; what < 12; what++) {
            s.append(x.told(what)).append(' ');
        }
        return s.toString();
    }

    /** A call that throws changes nothing. */
    private static void refusedCalls(Bench b) {
        SchemaPascal x = b.compiled("program a; var i: integer; p: ^char; begin i := 1; new(p); write(i); read(i); i := 2 end.");
        x.input(4);
        x.start();
        x.step(3);
        x.feed(1, 2, 3, 4, 5);
        String before = all(x);
        b.thrown("end(21)", IllegalArgumentException.class, () -> x.end(21));
        b.thrown("end(-1)", IllegalArgumentException.class, () -> x.end(-1));
        b.thrown("input", IllegalArgumentException.class, () -> x.input(Integer.MIN_VALUE));
        b.thrown("step(-1)", IllegalArgumentException.class, () -> x.step(-1));
        b.thrown("step(20001)", IllegalArgumentException.class, () -> x.step(20001));
        b.thrown("told(12)", IndexOutOfBoundsException.class, () -> x.told(12));
        b.thrown("told", IndexOutOfBoundsException.class, () -> x.told(Integer.MIN_VALUE));
        b.thrown("activation", IndexOutOfBoundsException.class, () -> x.activation(1, 0));
        b.thrown("value", IndexOutOfBoundsException.class, () -> x.value(0, 2, 0));
        b.thrown("value", IndexOutOfBoundsException.class, () -> x.value(0, 0, Integer.MAX_VALUE));
        b.thrown("variable", IndexOutOfBoundsException.class, () -> x.variable(0, 0, Integer.MAX_VALUE));
        b.thrown("thing", IndexOutOfBoundsException.class, () -> x.thing(2, 0));
        b.thrown("thing", IndexOutOfBoundsException.class, () -> x.thing(1, 2));
        b.thrown("cell, of no thing first", IndexOutOfBoundsException.class, () -> x.cell(2, 0));
        b.thrown("cell", IllegalStateException.class, () -> x.cell(1, 0));
        b.thrown("out", IndexOutOfBoundsException.class, () -> x.out(1));
        b.due("nothing changed", all(x), before);
        b.due("it goes on", x.step(1), 0);
        b.due("it ends", x.step(1), 1);
        String ended = all(x);
        b.thrown("step, its number first", IllegalArgumentException.class, () -> x.step(20001));
        b.thrown("step", IllegalStateException.class, () -> x.step(0));
        b.thrown("step", IllegalStateException.class, () -> x.step(20000));
        b.due("nothing changed", all(x), ended);
        b.due("of the tape", x.told(11), 20);
        b.due("its bytes are no program", x.compile(), -1);
        String none = all(x);
        b.thrown("start", IllegalStateException.class, x::start);
        b.thrown("step", IllegalStateException.class, () -> x.step(1));
        b.due("nothing changed", all(x), none);
        b.due("the fault stays", x.fault(), 1);
    }

    /** More bytes than can be told of: 2147483647 are told. */
    private static void manyBytes(Bench b) {
        String many = times(1300, "s,") + "s";
        SchemaPascal x = b.compiled("program a; var s: string(80); begin s := '" + times(80, "x") + "'; while true do write(" + many + ") end.");
        x.start();
        x.step(20000);
        b.due("not so many yet", x.told(8), 9999 * 1301 * 80);
        x.step(20000);
        b.due("all of them", x.told(8), 2081495920);
        x.step(2000);
        b.due("no more are told", x.told(8), 2147483647);
        b.due("the first", x.out(0), 'x');
        b.thrown("not kept", IndexOutOfBoundsException.class, () -> x.out(20000));
    }
}
