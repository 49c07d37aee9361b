/** Part 4: what statements and sums do; steps. */
public final class RunTest {
    public static void main(String[] args) {
        Bench b = new Bench("run");
        sums(b);
        texts(b);
        sets(b);
        statements(b);
        loops(b);
        routines(b);
        orders(b);
        records(b);
        schemata(b);
        pointers(b);
        input(b);
        steps(b);
        stepsOfCalls(b);
        b.close();
    }

    private static void sums(Bench b) {
        b.writes("program a; begin write(7 div 2, -7 div 2, ' ', (-7) div 2, 7 div (-2), ' ', (-7) mod 3, -7 mod 3, 7 mod 3) end.", "3-3 -3-3 2-11");
        b.writes("program a; begin write(1 + 2 * 3 - 4, ' ', (1 + 2) * 3, ' ', 10 - 3 - 2, ' ', 2 * 7 div 4, ' ', -2 + 5) end.", "3 9 5 3 3");
        b.writes("program a; begin write(maxint, ' ', -maxint, ' ', abs(-maxint), ' ', sqr(-46340), ' ', 0) end.", "2147483647 -2147483647 2147483647 2147395600 0");
        b.writes("program a; begin write(true and false, true or false, not true, 1 < 2, 2 <= 1, 1 <> 2, 'a' > 'b', true > false) end.", "falsetruefalsetruefalsetruefalsetrue");
        b.writes("program a; begin write(odd(3), odd(-3), odd(0), ord('A'), ord(true), chr(66), succ('a'), pred(0), succ(false)) end.", "truetruefalse651Bb-1true");
        b.writes("program a; type c = (r, g, b); var x: c; begin x := succ(r); write(x, ord(b), b > g, pred(b) = x) end.", "12truetrue");
        b.writes("program a; begin write(100, ' ', 10, ' ', 1000000000, ' ', -1000000000, ' ', 999999999) end.", "100 10 1000000000 -1000000000 999999999");
        b.writes("program a; type s = 1..3; var x: s; begin x := 3; write(succ(x), pred(1), x * x) end.", "409");
    }

    private static void texts(Bench b) {
        b.writes("program a; var s, t: string(10); c: char; begin s := 'abc'; t := s; c := 'd'; s := s + c + t + 'x'; write(s, length(s), length(c), length('xy')) end.", "abcdabcx812");
        b.writes("program a; begin write('abc' < 'abd', 'ab' < 'abc', 'abc' < 'ab', 'b' < 'abc', 'abc' = 'abc', 'a' = 'ab', 'ab' > 'a', 'z' >= 'ab', 'ab' <> 'ab') end.", "truetruefalsefalsetruefalsetruetruefalse");
        b.writes("program a; begin write(index('hello', 'l'), index('hello', 'llo'), index('hello', 'lol'), index('a', 'a'), index('a', 'ab'), index('abab', substr('abab', 3, 2)), index('ab', substr('x', 1, 0)), index(substr('x', 2, 0), substr('x', 1, 0))) end.", "33010111");
        b.writes("program a; begin write(substr('hello', 2, 3), '|', substr('hello', 6, 0), '|', substr('x', 1, 1), '|', length(substr('abc', 1, 0))) end.", "ell||x|0");
        b.writes("program a; var s: string(3); begin s := substr('abc', 1, 0); write(s, length(s), s = s, s < 'a'); s := 'ab'; s := s + 'c'; write(s) end.", "0truetrueabc");
        b.writes("program a; begin write(chr(200) + chr(0) > chr(199), '\u00ff' > 'z') end.", "truetrue");
        String forty = "1234567890123456789012345678901234567890";
        b.writes("program a; begin write(length('" + forty + "' + '" + forty + "')) end.", "80");
    }

    private static void sets(Bench b) {
        b.writes("program a; type s = set of 0..63; var x, y: s; i: integer; begin x := [0, 63, 5..7]; y := [6..8] + [0]; write(card(x), card(y), card(x * y), card(x - y), card(y - x), card(x + y)); for i := 0 to 9 do if i in x then write(' ', i) end.", "543216 0 5 6 7");
        b.writes("program a; begin write([1, 2] <= [1..3], [1..3] <= [1], [1..3] >= [2], [] <= [1], [1] = [1..1], [1] <> [2], [] = [5..3], 1 in [1], 64 in [1], -1 in [1], 'a' in []) end.", "truefalsetruetruetruetruetruetruefalsefalsefalse");
        b.writes("program a; type c = (r, g, b); var x: set of c; begin x := [r..b] - [g]; write(r in x, g in x, b in x, card([9..3, 70..60])) end.", "truefalsetrue0");
        b.writes("program a; begin write(card([0..63]), 63 in [63]) end.", "64true");
    }

    private static void statements(Bench b) {
        b.writes("program a; var x: integer; begin x := 3; if x = 3 then write(1) else write(2); if x = 4 then write(3); if x > 3 then else write(4); if true then if false then write(5) else write(6) end.", "146");
        b.writes("program a; var i: integer; begin for i := 1 to 6 do case i of 1, 3: write('a'); 4..5: begin write('b'); write('c') end; 2: ; otherwise write('d'); write('e') end end.", "aabcbcde");
        b.writes("program a; begin case 'x' of 'a'..'w': write(1); 'x': write(2) end; case false of true: write(3) otherwise end; write(4) end.", "24");
        b.writes("program a; begin writeln('ab', 1); writeln; write('c'); writeln('d') end.", "ab1\n\ncd\n");
        b.writes("program a; begin write(1); halt; write(2) end.", "1");
        b.writes("program a; procedure p; begin write(1); halt end; begin p; write(2) end.", "1");
        b.writes("program a; var x: integer value 5; c: char value 'q'; s: string(4) value 'abcd'; t: string(3) value 'z'; b: boolean value true; begin write(x, c, s, t, b) end.", "5qabcdztrue");
        b.writes("program a; function f: integer; begin write('f'); f := 2 end; begin write('x', f, f) end.", "xf2f2");
    }

    private static void loops(Bench b) {
        b.writes("program a; var i: integer; begin i := 0; while i < 3 do begin write(i); i := i + 1 end; repeat write(i); i := i - 1 until i = 1; while false do write('x') end.", "01232");
        b.writes("program a; var i: integer; begin for i := 1 to 3 do write(i); for i := 3 downto 1 do write(i); for i := 2 to 1 do write('x'); for i := 1 downto 2 do write('y'); for i := 5 to 5 do write(i) end.", "1233215");
        b.writes("program a; var c: 'a'..'e'; begin for c := 'a' to 'e' do write(c); for c := 'z' to 'b' do write(c) end.", "abcde");
        b.writes("program a; var i, n: integer; begin n := 3; for i := 1 to n do begin n := 10; write(i) end end.", "123");
        b.writes("program a; var i: integer; begin for i := 1 to 9 do begin write(i); i := i + 3 end; for i := 1 to 3 do begin write(i); i := 10 end end.", "1591");
        b.writes("program a; var i, j: integer; begin for i := 1 to 3 do for j := i to 3 do write(i, j, ' ') end.", "11 12 13 22 23 33 ");
        b.writes("program a; var i: integer; begin for i := maxint - 1 to maxint do write(1); for i := -maxint + 1 downto -maxint do write(2) end.", "1122");
        b.writes("program a; var b: boolean; begin for b := false to true do write(b) end.", "falsetrue");
    }

    private static void routines(Bench b) {
        b.writes("program a; function f(n: integer): integer; begin if n < 2 then f := 1 else f := n * f(n - 1) end; begin write(f(10)) end.", "3628800");
        b.writes("program a; procedure q(n: integer); forward; procedure p(n: integer); begin if n > 0 then q(n - 1); write(n) end; procedure q; begin p(n) end; begin p(3) end.", "0123");
        b.writes("program a; var x: integer; procedure p(a: integer; var b: integer; protected c: integer); begin a := a + 1; b := b + a; write(a, b, c) end; begin x := 5; p(x, x, x); write(x) end.", "6111111");
        b.writes("program a; var x: integer; procedure p; var x: integer; procedure q; begin x := x + 1; write(x) end; begin x := 10; q; q; write(x) end; begin x := 1; p; write(x) end.", "1112121");
        b.writes("program a; function outer(n: integer): integer; function inner: integer; begin if n = 0 then inner := 0 else inner := n + outer(n - 1) end; begin outer := inner end; begin write(outer(4)) end.", "10");
        b.writes("program a; type r = array [1..3] of integer; var x: r; procedure p(y: r; var z: r); begin y[1] := 9; z[1] := 7; write(y[1], x[1], z[1], y[2]) end; begin x[1] := 1; x[2] := 2; p(x, x); write(x[1]) end.", "97727");
        b.writes("program a; type s = string(5); function f(x, y: s): s; begin f := y + x end; begin write(f('ab', 'c'), f(f('a', 'b'), 'c')) end.", "cabcba");
        b.writes("program a; type e = set of 0..9; function f(x: e): e; begin f := x + [1] end; begin write(card(f([])), card(f([2]))) end.", "12");
        b.writes("program a; function f: integer; begin f := 1; f := 2 end; procedure p; begin end; begin p; write(f) end.", "2");
        b.writes("program a; var i: integer; function f(x: integer): integer; begin i := i + 1; f := i * 10 + x end; begin i := 0; write(f(1) + f(2) * f(3)) end.", "737");
        b.writes("program a; procedure p(n: integer); var v: integer; begin v := n; if n > 0 then p(n - 1); write(v) end; begin p(3) end.", "0123");
    }

    /** What is worked out before what. */
    private static void orders(Bench b) {
        b.error(7, "program a; begin write(1); write(true or (1 `div 0 = 1)) end.", "1");
        b.error(7, "program a; begin write(1); write(false and (1 `div 0 = 1)) end.", "1");
        b.error(2, "program a; var v: array [1..2] of integer; begin v`[3] := 1 div 0 end.", "");
        b.error(7, "program a; var v: 1..2; begin v := 3 + 1 `div 0 end.", "");
        b.error(7, "program a; procedure p(x: integer; var y: integer); begin end; var v: array [1..2] of integer; begin p(1 `div 0, v[3]) end.", "");
        b.error(2, "program a; procedure p(var y: integer; x: integer); begin end; var v: array [1..2] of integer; begin p(v`[3], 1 div 0) end.", "");
        b.error(7, "program a; type d = 1..2; procedure p(x: d; y: integer); begin end; begin p(3, 1 `div 0) end.", "");
        b.error(7, "program a; begin write(card([1 `div 0, 64])) end.", "");
        b.error(2, "program a; begin write(card([`64, 1 div 0])) end.", "");
        b.error(7, "program a; begin write(card([64..1 `div 0])) end.", "");
        b.error(7, "program a; var i: 1..2; begin for i := 3 to 1 `div 0 do end.", "");
        String both = "program a; type r = array [1..2] of integer; var v: r; i: integer; function f: integer; begin v[1] := v[1] + 1; i := i + 1; f := 7 end; ";
        // Arrays are copied when all sums were worked out; numbers are taken at once; a var param stays with its element.
        b.writes(both + "procedure p(a: r; b, c: integer; var d: integer); begin d := 9; write(a[1], b, c, i) end; begin v[1] := 3; v[2] := 0; i := 1; p(v, v[1], f, v[i]); write(v[1], v[2]) end.", "437249");
        b.writes(both + "procedure p(var d: integer; c: integer); begin d := 9; write(c, i) end; begin v[1] := 3; v[2] := 0; i := 1; p(v[i], f); write(v[1], v[2]) end.", "7290");
        b.writes(both + "begin v[1] := 3; v[2] := 0; i := 1; v[i] := f; write(v[1], v[2], i) end.", "702");
        b.writes(both + "begin v[1] := 3; v[2] := 0; i := 1; write(v[1], f, v[1], i) end.", "3742");
        b.writes(both + "procedure p(var d: r); begin v[1] := 5; write(d[1]); d[1] := 6; write(v[1]) end; begin p(v) end.", "56");
        // What is no more keeps its cells for what stands for it.
        b.writes("program a; type r = record x: integer end; var p: ^r; begin new(p); with p^ do begin x := 1; dispose(p); x := 2; write(x) end end.", "2");
    }

    private static void records(Bench b) {
        String r = "program a; type d = 1..5; r = record a: integer; case k: d of 1, 2: (x: integer; y: char); 3: (z: integer; case m: boolean of true: (u: integer); false: (w: string(2))) end; var v, q: r; ";
        b.writes(r + "begin v.k := 1; v.x := 5; v.y := 'c'; v.k := 2; write(v.x, v.y); v.k := 3; v.z := 1; v.m := false; v.w := 'ab'; write(v.z, v.w, v.k); q := v; v.k := 4; v.k := 5; write(q.w, q.m, v.k) end.", "5c1ab3abfalse5");
        b.writes(r + "begin with v do begin a := 1; k := 3; m := true; u := 7; write(a, u, m, k) end; q := v; with q, v do write(u) end.", "17true37");
        b.writes("program a; type r = record x: integer; s: record x: char; y: integer end end; var v: r; x: boolean; begin x := true; with v do begin x := 1; with s do begin x := 'c'; y := 2; write(x, y) end; write(x) end; write(x, v.s.x) end.", "c21truec");
        b.writes("program a; type r = record n: integer; s: record m: integer end end; var v: r; begin with v, s do begin n := 1; m := 2; write(n + m) end end.", "3");
        b.writes("program a; var i: integer; v: array [1..2] of record x: integer end; begin i := 1; with v[i] do begin i := 2; x := 5 end; write(v[1].x) end.", "5");
        b.writes("program a; var v: array [1..2, 'a'..'b'] of integer; i: integer; c: char; begin for i := 1 to 2 do for c := 'a' to 'b' do v[i][c] := i * 10 + ord(c) - 97; v[1] := v[2]; write(v[1, 'b'], v[1]['a']) end.", "2120");
        b.writes("program a; var v: array [boolean] of array [0..1] of boolean; begin v[true, 0] := false; v[false] := v[true]; write(v[false, 0]) end.", "false");
        b.writes("program a; type r = record end; var u, v: r; begin u := v; with u do write(1) end.", "1");
    }

    private static void schemata(Bench b) {
        String s = "program a; type d = 1..9; vec(n: d) = array [1..n] of integer; mat(r, c: d) = array [1..r] of vec(c); name(n: integer) = record s: string(n); n: integer; m: 0..n end; v3 = vec(3); ";
        b.writes(s + "var v: vec(3); w: vec(4); m: mat(2, 3); i, j: integer; begin for i := 1 to v.n do v[i] := i; for i := 1 to w.n do w[i] := 10 * i; m[1] := v; m[2] := v; m[2, 3] := 7; v := m[2]; write(v[3], w[4], m.r, m.c, m[1].n, m[1][2]) end.", "7402332");
        b.writes(s + "var x: name(4); begin x.s := 'abcd'; with x do n := 9; write(x.n, x.s); x.m := 4; with x do write(n, m) end.", "4abcd94");
        b.writes(s + "procedure p(v: vec; var w: vec; protected u: vec); var i: integer; begin for i := 1 to v.n do begin w[i] := v[i] + u[1]; v[i] := 0 end; write(v.n, w.n, u.n) end; var a: vec(2); c: v3; begin a[1] := 1; a[2] := 2; c[1] := 5; p(a, c, c); write(c[1], c[2], a[1]) end.", "233681");
        b.writes(s + "var m: mat(2, 2); procedure p(var v: vec); begin v[1] := v.n end; begin p(m[2]); write(m[2, 1]) end.", "2");
        b.writes(s + "var i: integer value 4; procedure p(n: integer); var v: vec(n); w, x: vec(n + 1); begin v[n] := n; w[n + 1] := 8; write(v.n, w.n, x.n, v[n]) end; begin p(3); p(i) end.", "34434554");
        b.writes(s + "var a: v3; m: vec(3); begin a[1] := 1; m := a; write(m[1]); m[1] := 2; a := m; write(a[1]) end.", "12");
        b.writes("program a; type e = (r, g); t(b: boolean; c: char; x: e) = array [false..b] of array ['a'..c] of array [r..x] of integer; var v: t(true, 'c', g); begin v[true, 'c', g] := 5; write(v[true, 'c', g], v.b, v.c, v.x) end.", "5truec1");
        b.writes("program a; type t(n: integer) = record x: array [1..n] of integer; case k: boolean of true: (y: string(n)); false: (z: array [0..n] of integer) end; var v: t(2); w: t(2); begin v.k := false; v.z[2] := 3; w := v; write(w.z[2], w.n); w.k := true; w.y := 'ab'; write(w.y) end.", "32ab");
        b.writes("program a; type t(n: integer) = record s: set of 0..n; x: 0..n end; var v: t(5); begin v.s := [0, 5]; v.x := 5; write(card(v.s), v.x) end.", "25");
    }

    private static void pointers(Bench b) {
        b.writes("program a; type l = ^n; n = record v: integer; t: l end; var h, p: l; i: integer; begin h := nil; for i := 1 to 3 do begin new(p); p^.v := i; p^.t := h; h := p end; while h <> nil do begin write(h^.v); h := h^.t end end.", "321");
        b.writes("program a; type vec(n: integer) = array [1..n] of integer; var p, q: ^vec; i: integer; begin new(p, 3); new(q, 3); p^[3] := 4; q^ := p^; write(q^[3], q^.n, p = q, p <> q); q := p; write(p = q); dispose(p); write(q = p, q = nil) end.", "43falsetruetruetruefalse");
        b.writes("program a; type t(n: integer) = array [1..n] of char; t2 = t(2); var p: ^t2; begin new(p); p^[2] := 'x'; write(p^.n, p^[2]) end.", "2x");
        b.writes("program a; type p = ^p; var x: p; begin new(x); x^ := x; write(x^^^ = x); x^ := nil; write(x^ = nil) end.", "truetrue");
        b.writes("program a; type p = ^integer; function f(x: integer): p; var q: p; begin new(q); q^ := x; f := q end; var y: p; begin y := f(5); write(y^) end.", "5");
        b.writes("program a; type t(n: integer) = record next: ^t; s: string(n) end; var p: ^t; begin new(p, 2); p^.next := nil; p^.s := 'ab'; write(p^.s, p^.next = nil) end.", "abtrue");
    }

    private static void input(Bench b) {
        b.writes("program a; var x, y: integer; begin read(x, y); write(y, x, eof); read(x); write(x, eof) end.", "21false3true", 1, 2, 3);
        b.writes("program a; var v: array [1..3] of 0..9; x: integer; begin read(x, v[x]); write(v[2]) end.", "7", 2, 7);
        b.writes("program a; begin write(eof) end.", "true");
        SchemaPascal x = b.ran("program a; var x: 1..3; begin read(x); write(x); read(x) end.", 2, 9, 1);
        b.due("error", x.told(2), 2);
        b.due("not read", x.told(9), 2);
    }

    /** After each step the place of the statement that began it is the next one's mark. */
    private static void trace(Bench b, String text, String places) {
        SchemaPascal x = b.compiled(text);
        x.start();
        StringBuilder got = new StringBuilder();
        for (int i = 0; i < 200 && x.told(0) == 1; i++) {
            b.due(text + " | steps", x.told(1), i);
            int goesOn = x.step(1);
            if (goesOn == 0) {
                int place = x.activation(0, 3);
                got.append(place < 0 ? '-' : text.charAt(place));
            } else {
                got.append('.');
            }
        }
        b.due(text + " | trace", got.toString(), places);
    }

    private static void steps(Bench b) {
        trace(b, "program a; var i: integer; begin i := 0; while i < 2 do i := i + 1; write(1) end.", "iwwiwi.");
        trace(b, "program a; var i: integer; begin i := 0; repeat i := i + 1 until i = 2; write(1) end.", "irriri.");
        trace(b, "program a; var i: integer; begin for i := 1 to 2 do write(i); for i := 2 to 1 do; halt end.", "ffwfwf.");
        trace(b, "program a; var i: integer; begin i := 1; begin end; ; if i = 1 then begin write(1); ; end; case i of 1: ; 2: write(3) end; halt end.", "iiwc.");
        trace(b, "program a; var r: record x: integer end; begin with r do x := 1; with r do with r do begin end; with r do halt end.", "x.");
        trace(b, "program a; var i: integer; begin for i := 1 to 3 do; halt end.", "ffff.");
        SchemaPascal x = b.compiled("program a; begin end.");
        x.start();
        b.due("ended at once", x.told(0), 0);
        b.due("without a step", x.told(1), 0);
        x = b.compiled("program a; var i: integer; begin for i := 1 to 3 do write(i) end.");
        x.start();
        b.due("no step", x.step(0), 0);
        b.due("no step begun", x.told(1), 0);
        b.due("place", x.activation(0, 3), SchemaPascal.NONE);
        b.due("one", x.step(1), 0);
        b.due("first given", x.value(0, 0, 0), 1);
        b.due("two more", x.step(2), 0);
        b.due("next given", x.value(0, 0, 0), 2);
        b.due("written", x.told(8), 1);
        b.due("to the end", x.step(4), 1);
        b.due("steps", x.told(1), 7);
    }

    private static void stepsOfCalls(Bench b) {
        SchemaPascal x = b.compiled("program a; var x: integer; function f(n: integer): integer; begin f := n + 1 end; begin x := f(1) + f(2); write(x) end.");
        x.start();
        b.due("the statement begins", x.step(1), 0);
        b.due("f is there", x.told(4), 2);
        b.due("before any step of it", x.activation(0, 3), SchemaPascal.NONE);
        b.due("its step", x.step(1), 0);
        b.due("the second f is there", x.told(4), 2);
        b.due("called at", x.activation(0, 1), "program a; var x: integer; function f(n: integer): integer; begin f := n + 1 end; begin x := f(1) + f".length() - 1);
        b.due("its param", x.value(0, 0, 0), 2);
        b.due("its step", x.step(1), 0);
        b.due("back", x.told(4), 1);
        b.due("given", x.value(0, 0, 0), 5);
        b.due("the end", x.step(1), 1);
        b.due("steps", x.told(1), 4);
        x = b.compiled("program a; type v(n: integer) = array [1..n] of char; function f: integer; begin f := 2 end; var q: integer; x: v(f); begin write(1) end.");
        x.start();
        b.due("in the values", x.told(4), 2);
        b.due("x is not made", x.told(5), 1 + 1 + 2 + 1);
        b.due("step", x.step(1), 0);
        b.due("x is made", x.told(5), 1 + 2 + 3);
        b.due("no statement of the program yet", x.activation(0, 3), SchemaPascal.NONE);
        b.due("end", x.step(1), 1);
    }
}
