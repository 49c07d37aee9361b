/** Part 4: errors with their numbers and places, and what stands behind them. */
public final class ErrorsTest {
    public static void main(String[] args) {
        Bench b = new Bench("errors");
        undefined(b);
        notMade(b);
        variants(b);
        sorts(b);
        outside(b);
        madeTypes(b);
        pointers(b);
        numbers(b);
        others(b);
        room(b);
        texts(b);
        charsAsTexts(b);
        chain(b);
        b.close();
    }

    private static void undefined(Bench b) {
        b.error(1, "program a; var x: integer; begin x := `x + 1 end.", "");
        b.error(1, "program a; var v: array [1..2] of integer; begin v[1] := 1; write(v[1], v`[2]) end.", "1");
        b.error(1, "program a; var v: array [1..2, 1..2] of integer; begin write(v[1`, 2]) end.", "");
        b.error(1, "program a; var v: array [1..2] of array [1..2] of integer; begin write(v[1]`[2]) end.", "");
        b.error(1, "program a; var r: record x: integer end; begin write(r`.x) end.", "");
        b.error(1, "program a; var r: record x: integer end; begin with r do write(`x) end.", "");
        b.error(1, "program a; var r: record s: record x: integer end end; begin with r do write(s`.x) end.", "");
        b.error(1, "program a; var p: ^integer; begin new(p); write(p`^) end.", "");
        b.error(1, "program a; var p: ^integer; begin p`^ := 1 end.", "");
        b.error(1, "program a; var p: ^integer; begin if `p = nil then end.", "");
        b.error(1, "program a; var p: ^integer; begin `dispose(p) end.", "");
        b.error(1, "program a; var s: string(3); begin write(1, `s) end.", "1");
        b.error(1, "program a; var x: integer; s: set of 0..3; begin write(1 in `s) end.", "");
        b.error(1, "program a; var x, y: integer; begin x := 1; y := x * `y end.", "");
        b.error(1, "program a; var i: integer; procedure p; begin i := i + 1 end; begin for i := 1 to 2 do; write(`i) end.", "");
        b.error(1, "program a; var i: integer; begin for i := 2 to 1 do; write(`i) end.", "");
        b.error(1, "program a; type r = record k: boolean; case t: boolean of true: (i: integer) end; var v: r; i: integer; procedure q(var i: integer); begin write(`i) end; begin v.t := true; q(v.i) end.", "");
        b.error(1, "program a; var i: integer; begin for i := 1 to 9 do; `for i := 1 to 5 do begin write(i); if i = 3 then for i := 2 to 1 do end end.", "123");
        b.error(1, "program a; procedure p(x: integer); begin end; var y: integer; begin p(`y) end.", "");
        b.error(1, "program a; var x: integer; begin case `x of 1: end end.", "");
        b.error(1, "program a; var x: boolean; begin while `x do end.", "");
    }

    private static void notMade(Bench b) {
        String v = "program a; type vec(n: integer) = array [1..n] of integer; procedure dummy; begin end; ";
        b.error(1, v + "function f: integer; forward; var x: vec(f); y: integer; function f; begin write(1); f := `y end; begin end.", "1");
        b.error(1, v + "function f: integer; forward; var x: vec(f); y: integer; function f; begin `y := 1; f := 2 end; begin end.", "");
        b.error(1, v + "function f: integer; forward; var x: vec(f); function f; begin write(`x.n) end; begin end.", "");
        b.error(1, v + "function f: integer; forward; var x: vec(f); r: record z: integer end; function f; begin with `r do z := 1 end; begin end.", "");
        b.error(1, v + "function f: integer; forward; var x, y: vec(f); function f; begin f := 2; `x[1] := 1; write(x.n) end; begin end.", "");
    }

    private static void variants(Bench b) {
        String r = "program a; type d = 1..5; r = record a: integer; case k: d of 1, 2: (x: integer; y: char); 3: (z: integer; case m: boolean of true: (u: integer); false: (w: integer)) end; var v: r; begin ";
        b.error(1, r + "v`.x := 1 end.", "");
        b.error(1, r + "v`.m := true end.", "");
        b.error(1, r + "with v do `x := 1 end.", "");
        b.error(3, r + "v.k := 3; v`.x := 1 end.", "");
        b.error(3, r + "v.k := 4; write(v`.x) end.", "");
        b.error(3, r + "v.k := 1; with v do begin k := 2; x := 1; k := 3; `x := 2 end end.", "");
        b.error(3, r + "v.k := 1; v`.u := 1 end.", "");
        b.error(1, r + "v.k := 3; v`.u := 1 end.", "");
        b.error(3, r + "v.k := 3; v.m := false; v`.u := 1 end.", "");
        b.error(1, r + "v.k := 3; v.m := true; v.u := 1; v.z := 2; write(v.u, v.z); v.m := false; v.m := true; write(v.z, v`.u) end.", "122");
        b.error(1, r + "v.k := 1; v.x := 1; v.k := 2; write(v.x); v.k := 4; v.k := 1; write(v`.x) end.", "1");
        b.error(1, r + "v.k := 3; v.z := 1; v.m := true; v.k := 1; v.k := 3; write(v`.m) end.", "");
        b.error(2, r + "v.k := 1; v.x := 5; write(v.x); v.k `:= 6 end.", "5");
        SchemaPascal x = b.error(2, r + "v.k := 1; v.x := 5; v.a := 0; v.k `:= v.a end.", "");
        b.due("the tag stays", x.value(0, 0, 1), 1);
        b.due("its variant stays", x.value(0, 0, 2), 5);
        b.error(1, "program a; type t(n: integer) = record case k: boolean of true: (x: array [1..n] of char); false: (y: integer) end; var v: t(2); begin v`.x[1] := 'a' end.", "");
        b.error(3, "program a; type t(n: integer) = record case k: boolean of true: (x: array [1..n] of char); false: (y: integer) end; var v: t(2); begin v.k := true; v.x[2] := 'a'; write(v.x[2]); v.k := false; v`.x[1] := 'a' end.", "a");
    }

    private static void sorts(Bench b) {
        String r = "program a; type d = 1..5; s3 = string(3); s2 = string(2); e = set of d; pi = ^integer; r = record case k: d of 1: (i: integer); 2: (c: char); 3: (s: s3); 4: (t: s2; n: integer); 5: (m: e; p: pi; q: ^char) end; h = record case k: boolean of true: (a: d); false: (b: integer) end; "
                + "var v: r; w: h; ";
        b.error(1, r + "procedure q(var x: integer); begin write(x); v.k := 2; write(2); v.c := 'a'; write(`x) end; begin v.k := 1; v.i := 7; q(v.i) end.", "72");
        b.error(1, r + "procedure q(var x: char); begin v.k := 3; v.s := 'a'; write(`x) end; begin v.k := 2; q(v.c) end.", "");
        b.error(1, r + "procedure q(var x: s3); begin v.k := 4; v.t := 'ab'; v.n := 1; write(x, length(x)); v.k := 1; v.i := 3; write(`x) end; begin v.k := 3; q(v.s) end.", "ab2");
        b.error(1, r + "procedure q(var x: s2); begin v.k := 3; v.s := 'ab'; write(x); v.s := 'abc'; write(v.s, `x) end; begin v.k := 4; q(v.t) end.", "ababc");
        b.error(1, r + "procedure q(var x: e); begin v.k := 1; v.i := 3; write(card(`x)) end; begin v.k := 5; q(v.m) end.", "");
        b.error(1, r + "procedure q(var x: d); begin w.k := false; w.b := 3; write(x); w.b := 9; write(`x) end; begin w.k := true; q(w.a) end.", "3");
        b.error(1, r + "begin v.k := 3; v.s := 'abc'; with v do begin write(s); k := 4; t := 'a'; n := 5; write(t, n); k := 3; write(`s) end end.", "abca5");
        // A tag that is of another sort counts as UNDEFINED.
        b.error(1, "program a; type b2 = record case k: boolean of true: (x: integer) end; r = record case o: boolean of true: (t: b2); false: (i, j: integer) end; var v: r; procedure q(var y: b2); begin v.o := false; v.i := 1; v.j := 4; write(y`.x) end; begin v.o := true; q(v.t) end.", "");
        b.error(1, "program a; type b2 = record case k: boolean of true: (x: integer) end; r = record case o: boolean of true: (t: b2); false: (i, j: integer) end; var v: r; procedure q(var y: b2); begin v.o := false; v.i := 1; v.j := 4; write(v.j); y.k := true; write(y`.x) end; begin v.o := true; q(v.t) end.", "4");
        b.writes("program a; type b2 = record case k: boolean of true: (x: integer) end; r = record case o: boolean of true: (t: b2); false: (i: boolean; j: integer) end; var v: r; procedure q(var y: b2); begin v.o := false; v.i := true; v.j := 4; y.k := true; write(y.x) end; begin v.o := true; q(v.t) end.", "4");
        // What was worked out before := keeps standing for its cells.
        b.writes("program a; type r = record case k: boolean of true: (x: integer); false: (y: integer) end; var v: r; function f: integer; begin v.k := false; f := 5 end; begin v.k := true; v.x := f; write(v.k, v.y) end.", "false5");
    }

    private static void outside(Bench b) {
        b.error(2, "program a; var x: 1..3; begin x `:= 4 end.", "");
        b.error(2, "program a; var x: 1..3; begin x := 3; x `:= x + 1 end.", "");
        b.error(2, "program a; type c = (r, g, h); var x: g..h; begin x `:= r end.", "");
        b.error(2, "program a; var s: string(3); begin s := 'abc'; s `:= s + 'd' end.", "");
        b.error(2, "program a; var s: set of 1..3; begin s := [1..3]; s `:= s + [4] end.", "");
        b.error(2, "program a; var s: set of 1..3; begin s `:= [0] end.", "");
        b.error(2, "program a; function f: boolean; begin end; function g: integer; begin end; type d = 1..3; function k: d; begin k := 1; k `:= 5 end; begin write(k) end.", "");
        b.error(2, "program a; type d = 1..3; procedure p(x: d; y: d); begin end; begin p(1, 2); `p(1, 4) end.", "");
        b.error(2, "program a; type d = 1..3; function f(x: d): d; begin f := x end; begin write(f(1) + `f(5)) end.", "");
        b.error(2, "program a; type s = string(2); procedure p(x: s); begin write(x) end; begin p('ab'); `p('abc') end.", "ab");
        b.error(2, "program a; type e = set of 0..3; procedure p(x: e); begin end; begin p([3]); `p([4]) end.", "");
        b.error(2, "program a; var i: 1..3; begin `for i := 0 to 2 do end.", "");
        b.error(2, "program a; var i: 1..3; begin `for i := 2 to 5 do write(i) end.", "23");
        b.error(2, "program a; var i: 1..3; begin `for i := 2 downto 0 do write(i) end.", "21");
        b.writes("program a; var i: 1..3; begin for i := 9 to 5 do write(i); for i := 0 downto 5 do write(i); write(1) end.", "1");
        b.error(2, "program a; var i: 1..3; begin `read(i) end.", "", 4);
        b.error(2, "program a; var v: array [1..3] of integer; begin v`[0] := 1 end.", "");
        b.error(2, "program a; var v: array [1..3] of integer; begin write(v`[4]) end.", "");
        b.error(2, "program a; var v: array [1..3, 1..2] of integer; begin v[3`, 3] := 1 end.", "");
        b.error(2, "program a; var v: array [1..3, 1..2] of integer; begin v[3]`[3] := 1 end.", "");
        b.error(2, "program a; var v: array ['a'..'c'] of integer; begin v`['d'] := 1 end.", "");
        b.error(2, "program a; type t(n: integer) = array [1..n] of integer; var v: t(3); begin v[3] := 1; v`[4] := 1 end.", "");
        b.error(2, "program a; type t(n: integer) = record x: 0..n end; var v: t(3); begin v.x := 3; v.x `:= 4 end.", "");
        b.error(2, "program a; type t(n: integer) = record x: string(n) end; var v: t(3); begin v.x := 'abc'; v.x `:= 'abcd' end.", "");
        b.error(2, "program a; type t(n: integer) = record x: set of 0..n end; var v: t(3); begin v.x := [3]; v.x `:= [4] end.", "");
        b.error(2, "program a; var x: integer; begin x := -1; write(card([1, `x])) end.", "");
        b.error(2, "program a; begin write(card([`60 + 4])) end.", "");
        b.error(2, "program a; begin write(card([5..3, 70..60])); write(card([1, `60..64])) end.", "0");
        b.error(2, "program a; begin write(1 in [`-1..3]) end.", "");
        b.error(2, "program a; begin write(card([`'x'])) end.", "");
        b.error(2, "program a; type c = (r, g); begin write(succ(r)); write(`succ(g)) end.", "1");
        b.error(2, "program a; begin write(`pred(false)) end.", "");
        b.error(2, "program a; begin write(`succ(maxint)) end.", "");
        b.error(2, "program a; begin write(`pred(-maxint)) end.", "");
        b.error(2, "program a; begin write(chr(255), `chr(256)) end.", "\u00ff");
        b.error(2, "program a; begin write(`chr(-1)) end.", "");
        b.error(2, "program a; begin write(`substr('abc', 0, 1)) end.", "");
        b.error(2, "program a; begin write(`substr('abc', 1, -1)) end.", "");
        b.error(2, "program a; begin write(`substr('abc', 2, 3)) end.", "");
        b.error(2, "program a; begin write(`substr('abc', 5, 0)) end.", "");
        b.error(2, "program a; begin write(`substr('abc', maxint, maxint)) end.", "");
        String forty = "1234567890123456789012345678901234567890";
        b.error(2, "program a; begin write(length('" + forty + "' + '" + forty + "' `+ 'x')) end.", "");
    }

    private static void madeTypes(Bench b) {
        String t = "program a; type d = 1..9; t(n: d; m: integer) = record x: array [1..n] of 1..m; y: string(m); z: set of 0..m end; u(n: integer) = array [1..10 div n] of t(n, 1); ";
        b.error(2, "`" + t + "var q: integer value 0; x: t(q, 1); begin end.", "");
        b.error(2, "`" + t + "var q: integer value 10; x: t(q, 1); begin end.", "");
        b.error(2, "`" + t + "var q: integer value 0; x: t(1, q); begin end.", "");
        b.error(2, "`" + t + "var q: integer value 64; x: t(1, q); begin end.", "");
        b.writes(t + "var q: integer value 63; x: t(9, q); begin write(x.m) end.", "63");
        b.error(2, "`" + t + "var q: integer value 0; x: u(q); begin end.", "");
        b.error(2, "`" + t + "var q: integer value 10; x: u(q); begin end.", "");
        b.error(2, t + "procedure `p(n: integer); var x: t(n, n); begin write(x.n) end; begin p(2); p(0) end.", "2");
        b.error(2, t + "procedure `p(n: integer); forward; procedure p; var x: t(n, n); begin write(x.n) end; begin p(2); p(0) end.", "2");
        b.error(2, t + "var p: ^t; begin new(p, 9, 3); `new(p, 10, 3) end.", "");
        b.error(2, t + "var p: ^t; begin new(p, 9, 3); `new(p, 9, 0) end.", "");
        b.error(2, "`program a; type t(n: integer) = array [1..n] of array [1..n] of char; var q: integer value 64; x: t(q); begin end.", "");
        b.writes("program a; type t(n: integer) = array [1..n] of array [1..n] of char; var q: integer value 63; x: t(q); begin end.", "");
        b.error(2, "`program a; type t(n: integer) = array [1..n] of record end; var q: integer value 4001; x: t(q); begin end.", "");
        b.error(2, "`program a; type t(n: integer) = array [1..n * maxint] of char; var q: integer value 2; x: t(q); begin end.", "");
        b.error(7, "program a; type t(n: integer) = array [1..n] of char; var q: integer value 0; x: t(4 `div q); begin end.", "");
    }

    private static void pointers(Bench b) {
        b.error(4, "program a; var p: ^integer; begin p := nil; p`^ := 1 end.", "");
        b.error(4, "program a; var p: ^integer; begin p := nil; `dispose(p) end.", "");
        b.error(5, "program a; var p: ^integer; begin new(p); dispose(p); write(p`^) end.", "");
        b.error(5, "program a; var p, q: ^integer; begin new(p); q := p; dispose(p); `dispose(q) end.", "");
        b.error(5, "program a; type vec(n: integer) = array [1..n] of char; var p: ^vec; begin new(p, 2); dispose(p); write(p`^.n) end.", "");
        b.error(1, "program a; type r = record x: integer end; var p: ^r; begin new(p); with p^ do begin x := 1; write(x); dispose(p); write(`x) end end.", "1");
        b.error(1, "program a; type pi = ^integer; var p: pi; procedure q(var x: integer); begin write(x); dispose(p); write(`x) end; begin new(p); p^ := 3; q(p^) end.", "3");
    }

    private static void numbers(Bench b) {
        b.error(6, "program a; var x: integer; begin x := maxint; x := x `+ 1 end.", "");
        b.error(6, "program a; var x: integer; begin x := -maxint; x := x `- 1 end.", "");
        b.error(6, "program a; var x: integer; begin x := 65536; x := 1 + x `* x end.", "");
        b.error(6, "program a; var x: integer; begin x := 46341; x := `sqr(x) end.", "");
        b.error(7, "program a; var x: integer; begin x := 0; x := 5 `div x end.", "");
        b.error(7, "program a; var x: integer; begin x := 0; x := 5 `mod x end.", "");
        b.error(7, "program a; var x: integer; begin x := -3; x := 5 `mod x end.", "");
        b.error(7, "program a; begin write(1 + 5 `div 0) end.", "");
        b.writes("program a; begin write(-maxint div (-1), ' ', (-maxint) mod maxint) end.", "2147483647 0");
    }

    private static void others(Bench b) {
        b.error(8, "program a; var i: integer; begin for i := 1 to 3 do `case i of 1: write('a'); 3: end end.", "a");
        b.error(8, "program a; begin `case 5 of 6..8, 4: end end.", "");
        String s = "program a; type vec(n: integer) = array [1..n] of integer; v3 = vec(3); box(n: integer) = record v: vec(n) end; var x: vec(3); y: vec(4); z: v3; u: box(3); w: box(4); p: ^vec; ";
        b.error(9, s + "begin x := z; x `:= y end.", "");
        b.error(9, s + "begin u.v := x; u.v `:= w.v end.", "");
        b.error(9, s + "begin u := u; u `:= w end.", "");
        b.error(9, s + "begin new(p, 3); x := p^; new(p, 2); x `:= p^ end.", "");
        b.error(9, s + "procedure q(a: v3); begin write(1) end; begin q(x); `q(y) end.", "1");
        b.error(9, s + "procedure q(var a: v3); begin write(1) end; begin q(x); `q(y) end.", "1");
        b.error(9, s + "procedure q(protected a: v3); begin write(1) end; begin q(u.v); `q(w.v) end.", "1");
        b.error(10, "program a; function f(n: integer): integer; begin if n > 0 then f := n end; begin write(f(1)); write(2 + `f(0)) end.", "1");
        b.error(10, "program a; type s = string(3); function f: s; begin end; begin write(`f) end.", "");
        b.error(12, "program a; var x, y: integer; begin read(x); write(x); `read(y) end.", "3", 3);
        SchemaPascal x = b.error(12, "program a; var x, y: integer; begin `read(x, y) end.", "", 3);
        b.due("the first was read", x.value(0, 0, 0), 3);
    }

    private static void room(Bench b) {
        SchemaPascal x = b.error(11, "program a; procedure `p(n: integer); begin write(n mod 10); p(n + 1) end; begin p(1) end.", times(9, "1234567890") + "123456789");
        b.due("activations", x.told(4), 100);
        b.due("the deepest", x.value(0, 0, 0), 99);
        x = b.error(11, "program a; procedure `p(n: integer); var v: array [1..3000] of char; begin write(n); p(n + 1) end; begin p(1) end.", "123456");
        b.due("one that just began, too", x.told(4), 8);
        b.due("taken", x.told(5), 6 * 3003 + 3);
        b.due("its param", x.value(0, 0, 0), 7);
        int made = 1;
        try {
            x.variable(0, 1, 0);
        } catch (IndexOutOfBoundsException e) {
            made = 0;
        }
        b.due("its var is not made", made, 0);
        x = b.error(11, "`program a; var x, y, z, u, v, w: array [1..4000] of char; begin end.", "");
        b.due("taken", x.told(5), 6 + 4 * 4000);
        b.due("things", x.told(6), 0);
        b.due("begun", x.told(4), 1);
        x = b.error(11, "program a; type r = array [1..3999] of char; var p: ^r; begin new(p); new(p); new(p); new(p); new(p); `new(p) end.", "");
        b.due("things take", x.told(6), 20000);
        b.due("things", x.told(7), 5);
        x = b.error(11, "program a; type r = array [1..3999] of char; var p: ^r; begin new(p); new(p); new(p); new(p); dispose(p); new(p); `new(p) end.", "");
        b.due("things ever", x.told(6), 20000);
        b.due("things there", x.told(7), 4);
        // A value param's cells are taken before its value is looked at.
        x = b.error(2, "program a; type d = 1..3; procedure p(x: d; y: d); begin end; begin `p(4, 2) end.", "");
        b.due("activations", x.told(4), 2);
        b.due("taken", x.told(5), 3);
        b.due("made", x.variable(0, 0, 0), 1);
        b.due("not given", x.variable(0, 0, 1), 0);
        b.thrown("the next is not made", IndexOutOfBoundsException.class, () -> ErrorsTest.again("program a; type d = 1..3; procedure p(x: d; y: d); begin end; begin p(4, 2) end.").variable(0, 1, 0));
    }

    private static SchemaPascal again(String text) {
        return new Bench("again").ran(text);
    }

    private static void texts(Bench b) {
        String eighty = times(8, "1234567890");
        b.error(11, "program a; type s = string(80); var u: s; function `g(a, b, c: s; n: integer): integer; begin g := g(u, u, u, n + 1) end; begin u := '" + eighty + "'; write(g('a', 'b', 'c', 0)) end.", "");
        // The left text waits while the right side calls.
        String rec = "program a; type s = string(80); var u: s; k: integer; function f(n: integer): s; begin write('.'); if u = u + substr(f(n + 1), 1, 0) then f := u end; begin u := '" + eighty + "'; k := length(f(1)) end.";
        b.error(11, rec.replace("function f(", "function `f("), times(99, "."));
        String nested = "program a; type s = string(80); var u: s; k: integer; function h(a, b, c: s): s; begin h := a end; function f(n: integer): s; begin write('.'); f := h(u, %s, f(n + 1)) end; begin u := '" + eighty + "'; k := length(f(1)) end.";
        // 160 bytes each: 99 activations hold 15840.
        b.error(11, nested.replace("%s", "u").replace("function f(", "function `f("), times(99, "."));
        String three = "program a; type s = string(80); var u: s; k: integer; function h(a, b, c, d: s): s; begin h := a end; function f(n: integer): s; begin write('.'); f := h(u, u, %s, f(n + 1)) end; begin u := '" + eighty + "'; k := length(f(1)) end.";
        // 240 bytes each: the 84th has 19920 before it, one of its own fits.
        b.error(11, three.replace("%s", "u").replace("h(u, u, u", "h(u, `u, u"), times(84, "."));
        // 161 each: 124 fit, so that all 99 do; a char counts one where it stands for a string.
        b.error(11, three.replace("%s", "'x'").replace("function f(", "function `f("), times(99, "."));
        String operator = "program a; type s = string(80); var u, v: s; c: char; k: integer; function f(n: integer): s; begin write('.'); f := u + (u + (u + f(n + 1))) end; begin u := '" + eighty + "'; k := length(f(1)) end.";
        b.error(11, operator.replace("u + (u + (u + f(", "u + (`u + (u + f("), times(84, "."));
        String constant = operator.replace("u + (u + (u + f(", "u + ('" + eighty + "' + (u + f(");
        b.error(11, constant.replace("('" + eighty, "(`'" + eighty), times(84, "."));
        String part = "program a; type s = string(80); var r: record u: s end; k: integer; function f(n: integer): s; begin write('.'); f := r.u + (r.u + (r.u + f(n + 1))) end; begin r.u := '" + eighty + "'; k := length(f(1)) end.";
        b.error(11, part.replace("r.u + (r.u", "r.u + (r`.u"), times(84, "."));
    }

    /** A program that works out a condition while so many bytes wait, 19921 to 20000; u has 69, v 70 bytes. */
    private static String waiting(int bytes, String condition) {
        return "program a; type s = string(80); r = record c: char; u: s end; b = boolean; var e, u, v: s; c: char; y: r; z: array [1..2] of char; "
                + "function one: char; begin one := '1' end; function all: s; begin all := v end; function id(x: char): char; begin id := x end; "
                + "function f(g, h, i, j, k, l, m, n, o: s; x: b): b; begin f := x end; "
                + "function w(g, h, i, j, k, l, m: s; x: b): b; begin w := x end; "
                + "function d(n: integer): b; begin if n = 0 then d := w(e, e, e, e, e, e, '" + times(bytes - 19920, "m") + "', " + condition + ") "
                + "else d := f(e, e, e, e, e, e, e, e, e, d(n - 1)) end; "
                + "begin e := '" + times(80, "e") + "'; u := '" + times(69, "u") + "'; v := '" + times(70, "v") + "'; "
                + "c := 'c'; y.c := c; y.u := v; z[2] := c; write(d(27)) end.";
    }

    /** A char on the left of a relation stands for a string when the right side is one. */
    private static void charsAsTexts(Bench b) {
        String[] relations = {"=", "<>", "<", ">", "<=", ">="};
        String[] lefts = {"'a'", "c", "y.c", "z[2]", "one", "id(c)", "chr(99)", "succ(c)", "('a')"};
        for (String r : relations) {
            String isSo = r.equals("<>") || r.startsWith("<") ? "true" : "false";
            for (String left : lefts) {
                b.writes(waiting(19930, left + r + "u"), isSo);
                b.error(11, waiting(19930, left + r + "`v"), "");
            }
            // The other way round the char comes last.
            b.writes(waiting(19930, "u" + r + "'a'"), r.equals("<>") || r.startsWith(">") ? "true" : "false");
            b.error(11, waiting(19930, "v" + r + "`'a'"), "");
            // A char with a char is none of a string.
            b.writes(waiting(20000, "c" + r + "c"), r.endsWith("=") ? "true" : "false");
            b.error(11, waiting(20000, "`c" + r + "'ab'"), "");
            b.error(11, waiting(19999, "c" + r + "`'ab'"), "");
        }
        b.error(11, waiting(19930, "c = `'" + times(70, "t") + "'"), "");
        b.error(11, waiting(19930, "c = y`.u"), "");
        b.error(11, waiting(19930, "c = all").replace("all := v", "all := `v"), "");
        b.writes(waiting(19929, "c = all"), "false");
        b.error(11, waiting(20000, "`id(c) = u"), "");
        b.error(11, waiting(19930, "c = substr(`v, 1, 1)"), "");
        b.writes(waiting(19930, "c = substr(u, 1, 1)"), "false");
        b.error(11, waiting(19930, "c = (`v + 'a')"), "");
        b.error(11, waiting(19930, "c = u + `'a'"), "");
        b.error(11, waiting(19930, "c = 'a' + `u"), "");
        b.writes(waiting(19929, "'v' + u > 'a'"), "true");
        b.error(11, waiting(19989, "c = 'a' + 'b' + '12345678' + `c"), "");
        b.writes(waiting(19988, "c < 'd' + 'b' + '12345678' + c"), "true");
        // It counts in a call on the right side, too, and no more behind the relation.
        b.error(11, waiting(19998, "c = substr(`'ab', ord(c = 'ab'), 1)"), "");
        b.error(11, waiting(19997, "c = substr('ab', ord(`c = 'ab'), 1)"), "");
        b.error(11, waiting(19996, "c = substr('ab', ord(c = `'ab'), 1)"), "");
        b.writes(waiting(19994, "c = substr('ab', ord(c <> 'ab'), 1)"), "false");
        b.writes(waiting(19995, "(c > 'ab') and ('a' < 'abc') and (c > 'b') and ('abcd' > 'a') "), "true");
        b.writes("program a; var c: char; s: string(3); begin c := 'b'; s := 'b'; write(c = s, c < s + 'a', c > 'a' + s, c <= substr(s, 1, 0), c <> 'c', s >= c) end.",
                "truetruetruefalsetruetrue");
    }

    private static String times(int n, String s) {
        StringBuilder b = new StringBuilder();
        for (int i = 0; i < n; i++) {
            b.append(s);
        }
        return b.toString();
    }

    private static void chain(Bench b) {
        String text = "program a; var x: integer; procedure p(n: integer); procedure q(m: integer); begin x := m div (n - 2) end; begin q(n + 1); p(n + 1) end; begin p(1) end.";
        SchemaPascal x = b.ran(text);
        b.due("error", x.told(2), 7);
        b.due("place", x.told(3), text.indexOf("div"));
        b.due("activations", x.told(4), 4);
        b.due("q", x.activation(0, 0), 2);
        b.due("called at", x.activation(0, 1), text.indexOf("q(n + 1)"));
        b.due("q's statement", x.activation(0, 3), text.indexOf("x := m"));
        b.due("q's variables", x.activation(0, 2), 1);
        b.due("p", x.activation(1, 0), 1);
        b.due("called at", x.activation(1, 1), text.indexOf("p(n + 1) end"));
        b.due("p's statement", x.activation(1, 3), text.indexOf("q(n + 1)"));
        b.due("p", x.activation(2, 0), 1);
        b.due("called at", x.activation(2, 1), text.indexOf("p(1)"));
        b.due("p's statement", x.activation(2, 3), text.indexOf("p(n + 1) end"));
        b.due("program", x.activation(3, 0), 0);
        b.due("called at", x.activation(3, 1), -1);
        b.due("its statement", x.activation(3, 3), text.indexOf("p(1)"));
        b.due("m", x.value(0, 0, 0), 3);
        b.due("n", x.value(1, 0, 0), 2);
        b.due("n", x.value(2, 0, 0), 1);
        b.thrown("x", IllegalStateException.class, () -> again("program a; var x: integer; begin x := 5 div 0 end.").value(0, 0, 0));
    }
}
