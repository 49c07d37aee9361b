/** Part 3: what fits (fault 5), what is protected (6), what is KNOWN, and which fault counts at one word. */
public final class FitsTest {
    private static final String HEAD = "program a; type color = (red, green); small = 1..9; s5 = string(5); pi = ^integer; pk = ^integer;"
            + " ar = array [1..3] of integer; re = record f: integer; g: ar end; vec(n: integer) = array [1..n] of integer;"
            + " box(n, m: small) = record d: 1..n; e: string(m); v: vec(n); w: array [1..3] of integer; n: char; x: array [1..n] of char end;"
            + " v3 = vec(3); pv = ^vec;"
            + " var i, j: integer; k: small; b: boolean; c: char; o: color; s: s5; p: pi; q: pk; r: pi; a1, a2: ar; a3: array [1..3] of integer;"
            + " r1, r2: re; t: set of small; u: set of color; y: set of 0..5; v, w: vec(3); z: vec(4); h, l: box(2, 3); vp: pv; vv: v3;";

    public static void main(String[] args) {
        Bench b = new Bench("fits");
        assignments(b);
        operators(b);
        parts(b);
        params(b);
        known(b);
        types(b);
        knownOnes(b);
        guarded(b);
        atOneWord(b);
        b.close();
    }

    private static String in(String statements) {
        return HEAD + " begin " + statements + " end.";
    }

    private static void assignments(Bench b) {
        b.good(in("i := k; k := i; c := 'x'; o := red; b := true; s := c; s := 'x'; s := 'hello'; s := s + c; p := nil; p := r; q := nil"));
        b.good(in("a1 := a2; r1 := r2; r1.g := a1; t := y; y := t; t := [i]; u := []; v := w; v := z; v := vp^; vp^ := z; v := h.v; h.v := v; h := l; vv := z"));
        b.good(in("h.d := i; i := h.d; h.e := s; s := h.e; h.w := l.w"));
        b.fault(5, in("i := true`"));
        b.fault(5, in("i := c`"));
        b.fault(5, in("c := s`"));
        b.fault(5, in("c := 'ab'`"));
        b.fault(5, in("o := 1`"));
        b.fault(5, in("s := 5`"));
        b.fault(5, in("p := q`"));
        b.fault(5, in("q := p`"));
        b.fault(5, in("i := nil`"));
        b.fault(5, in("i := p`"));
        b.fault(5, in("a1 := a3`"));
        b.fault(5, in("a1 := (a2)`"));
        b.fault(5, in("v := (w)`"));
        b.fault(5, in("i := a1`"));
        b.fault(5, in("a1 := i`"));
        b.fault(5, in("r1 := a1`"));
        b.fault(5, in("a1 := v`"));
        b.fault(5, in("v := a1`"));
        b.fault(5, in("h := v`"));
        b.fault(5, in("h.x := l.x`"));
        b.fault(5, in("h.w := a1`"));
        b.fault(5, in("t := u`"));
        b.fault(5, in("t := [red]`"));
        b.fault(5, in("t := ['a']`"));
        b.fault(5, in("t := i`"));
        b.fault(5, in("v.n` := 3"));
        b.fault(5, in("h.n` := 'a'"));
        b.good(in("with h do n := 'a'; with h do write(n); write(h.n + 1)"));
    }

    private static void operators(Bench b) {
        b.good(in("i := i + k * j div k mod 3 - 1; b := b and (i < k) or not b; s := c + c; s := s + s; t := t + y * [1] - []; b := i in t; b := 'x' in []"));
        b.good(in("b := s = c; b := c <= s; b := 'a' < 'ab'; b := o < green; b := b = true; b := t <= y; b := t >= []; b := t = y; b := p = r; b := p <> nil; b := nil = nil; b := nil = q"));
        b.fault(5, in("i := 1 + true`"));
        b.fault(5, in("i := true + 1`"));
        b.fault(5, in("i := true + 1` * 2".replace("` * 2", " * 2`")));
        b.fault(5, in("i := true * 1` + 2"));
        b.fault(5, in("i := 1 + true * 2`"));
        b.fault(5, in("i := o + 1`"));
        b.fault(5, in("s := s - s`"));
        b.fault(5, in("i := c + 1`"));
        b.fault(5, in("i := nil + 1`"));
        b.fault(5, in("i := a1 + 1`"));
        b.fault(5, in("i := 1 + a1`"));
        b.fault(5, in("i := -true`"));
        b.fault(5, in("i := +c`"));
        b.fault(5, in("i := -true * 2`"));
        b.fault(5, in("i := 1 and 2`"));
        b.fault(5, in("b := b and 2`"));
        b.fault(5, in("b := b or 2`"));
        b.fault(5, in("b := b + b`"));
        b.fault(5, in("b := not 1`"));
        b.fault(5, in("b := not i` = 1"));
        b.fault(5, in("t := t div t`"));
        b.fault(5, in("t := t + u`"));
        b.fault(5, in("t := t + 1`"));
        b.fault(5, in("b := t < y`"));
        b.fault(5, in("b := t > y`"));
        b.fault(5, in("b := t = u`"));
        b.fault(5, in("b := i in u`"));
        b.fault(5, in("b := i in 5`"));
        b.fault(5, in("b := s in t`"));
        b.fault(5, in("b := p = q`"));
        b.fault(5, in("b := p < r`"));
        b.fault(5, in("b := p = 0`"));
        b.fault(5, in("b := a1 = a2`"));
        b.fault(5, in("b := v = w`"));
        b.fault(5, in("b := i = c`"));
        b.fault(5, in("b := s = 1`"));
        b.fault(5, in("b := 5 div 'a'`"));
        b.fault(5, in("t := [1, red`]"));
        b.fault(5, in("t := [1..red`]"));
        b.fault(5, in("t := [s`]"));
        b.fault(5, in("t := ['ab'`..'c']"));
        b.fault(5, in("if i` then"));
        b.fault(5, in("while 1` do"));
        b.fault(5, in("repeat until c`"));
        b.fault(5, in("for i := c` to 2 do"));
        b.fault(5, in("for i := 1 to true` do"));
        b.fault(5, in("for c := 1` to 2 do"));
        b.good(in("for c := 'a' to 'z' do; for o := green downto red do; for k := i to j do; for b := false to true do"));
        b.fault(5, in("case s` of 'a': end"));
        b.fault(5, in("case p` of 1: end"));
    }

    private static void parts(Bench b) {
        b.good(in("r1.g[2] := vp^[1]; vp^[2] := v.n; i := vp^.n; h.v[1] := h.v.n"));
        b.fault(5, in("i`.x := 1"));
        b.fault(5, in("i`[1] := 1"));
        b.fault(5, in("i`^ := 1"));
        b.fault(5, in("s`[1] := 'a'"));
        b.fault(5, in("a1[1`, 2] := 1"));
        b.fault(5, in("a1[1]`[2] := 1"));
        b.fault(5, in("a1`.x := 1"));
        b.fault(5, in("r1`[1] := 1"));
        b.fault(5, in("r1`^ := 1"));
        b.fault(5, in("p`.x := 1"));
        b.fault(5, in("p^`^ := 1"));
        b.fault(5, in("a1[true`] := 1"));
        b.fault(5, in("a1[s`] := 1"));
        b.fault(5, in("v`^ := 1"));
        b.fault(5, in("i := i`.x"));
        b.fault(5, in("write(a1[1`, 2])"));
        b.fault(2, in("i := v.n`.x"));
        b.fault(2, in("i := v.n`[1]"));
        b.fault(2, in("i := v.n`^"));
        b.fault(5, in("with a1` do"));
        b.fault(5, in("with v` do"));
        b.fault(5, in("with h.n` do"));
        b.fault(5, in("with r1.f` do"));
        b.good(in("with r1, h do begin f := 1; g[1] := 2; w[1] := 1; d := 1 end"));
    }

    private static void params(Bench b) {
        String routines = HEAD + " procedure p0; begin end; procedure p1(i: integer); begin end; procedure p2(a: ar; s: s5); begin end;"
                + " procedure p3(var i: integer; var k: small); begin end; procedure p4(v: vec; x: v3); begin end; procedure p5(var v: vec; protected x: v3); begin end;"
                + " procedure p6(protected r: re; protected c: char); begin end; function f0: integer; begin end; function f1(t: color): s5; begin end;"
                + " procedure p7(var p: pi; q: pk); begin end; begin ";
        b.good(routines + "p0; p1(k); p1(f0); p2(a1, 'x'); p2(r1.g, f1(red)); p3(i, k); p3(r1.f, k); p4(v, z); p4(h.v, vp^); p5(v, z); p5(h.v, vp^); p6(r1, c); p7(p, nil) end.");
        b.fault(5, routines + "p1` end.");
        b.fault(5, routines + "p1`; end.");
        b.fault(5, routines + "i := f1` end.");
        b.fault(5, routines + "p1(true`) end.");
        b.fault(5, routines + "p1(1`, 2) end.");
        b.fault(5, routines + "p2(a1`) end.");
        b.fault(5, routines + "p2(a3`, s) end.");
        b.fault(5, routines + "p2((a1)`, s) end.");
        b.fault(5, routines + "p3(1`, k) end.");
        b.fault(5, routines + "p3((i)`, k) end.");
        b.fault(5, routines + "p3(i + 1`, k) end.");
        b.fault(5, routines + "p3(k`, k) end.");
        b.fault(5, routines + "p3(i, i`) end.");
        b.fault(5, routines + "p3(v.n`, k) end.");
        b.fault(5, routines + "p3(f0`, k) end.");
        b.fault(5, routines + "p4(a1`, z) end.");
        b.fault(5, routines + "p4((v)`, z) end.");
        b.fault(5, routines + "p5(a1`, z) end.");
        b.fault(5, routines + "p5(v, a1`) end.");
        b.fault(5, routines + "p6(a1`, c) end.");
        b.fault(5, routines + "p6(r1, 'x'`) end.");
        b.fault(5, routines + "p7(q`, nil) end.");
        b.fault(5, routines + "p7(nil`, nil) end.");
        b.fault(2, routines + "p0`(1) end.");
        b.fault(2, routines + "p1(`) end.");
        b.fault(2, routines + "p2(a1, `) end.");
        b.fault(2, routines + "p1(1 `; end.");
    }

    private static void known(Bench b) {
        b.good(in("i := abs(k) + sqr(i) + ord(o) + ord('a') + length(s) + length(c) + card(t) + card([]) + index(s, c) + index('x', 'xy'); b := odd(i) or eof; c := chr(k); o := succ(pred(o)); s := substr(s, 1, k); s := substr(c, 1, 1)"));
        b.good(in("new(p); dispose(p); new(vp, 3); new(vp, k); read(i, k, a1[1], vp^[1]); write(i, c, s, b, o, s + s, h.n); writeln(i)"));
        b.fault(5, in("i := abs`"));
        b.fault(5, in("i := abs(true`)"));
        b.fault(5, in("i := abs(1`, 2)"));
        b.fault(5, in("i := index(s`)"));
        b.fault(5, in("i := index(1`, s)"));
        b.fault(5, in("i := index(s, s`, s)"));
        b.fault(5, in("s := substr(s, 1`)"));
        b.fault(5, in("s := substr(s, c`, 1)"));
        b.fault(5, in("i := ord(s`)"));
        b.fault(5, in("c := chr(c`)"));
        b.fault(5, in("o := succ(p`)"));
        b.fault(5, in("i := length(i`)"));
        b.fault(5, in("i := card(i`)"));
        b.fault(5, in("b := odd(b`)"));
        b.fault(5, in("i := sqr(a1`)"));
        b.fault(5, in("write`; i := 1"));
        b.fault(5, in("read`"));
        b.fault(5, in("new`; i := 1"));
        b.fault(5, in("dispose`"));
        b.fault(5, in("write(t`)"));
        b.fault(5, in("write(p`)"));
        b.fault(5, in("write(i, a1`)"));
        b.fault(5, in("writeln(nil`)"));
        b.fault(5, in("read(c`)"));
        b.fault(5, in("read(v.n`)"));
        b.fault(5, in("read(i, b`)"));
        b.fault(5, in("new(i`)"));
        b.fault(5, in("new(p`, 3)"));
        b.fault(5, in("new(vp`)"));
        b.fault(5, in("new(vp, c`)"));
        b.fault(5, in("new(vp, 3`, 4)"));
        b.fault(5, in("dispose(i`)"));
        b.fault(5, in("dispose(p`, 3)"));
    }

    private static void types(Bench b) {
        b.fault(5, HEAD + " var x: vec`; begin end.");
        b.fault(5, HEAD + " type x = vec`; begin end.");
        b.fault(5, HEAD + " type x = array [vec`] of char; begin end.");
        b.fault(5, HEAD + " type x = array [ar`] of char; begin end.");
        b.fault(5, HEAD + " type x = array [s5`, 1..2] of char; begin end.");
        b.fault(5, HEAD + " type x = array [1..2] of vec`; begin end.");
        b.fault(5, HEAD + " type x = set of s5`; begin end.");
        b.fault(5, HEAD + " type x = set of vec(3)`; begin end.");
        b.fault(5, HEAD + " type x = record k: vec`; end; begin end.");
        b.fault(5, HEAD + " type x = record case m: ar` of 1: () end; begin end.");
        b.fault(5, HEAD + " type x = record case m: vec` of 1: () end; begin end.");
        b.fault(5, HEAD + " function f: ar`; begin end; begin end.");
        b.fault(5, HEAD + " function f: vec`; begin end; begin end.");
        b.fault(5, HEAD + " function f: v3`; begin end; begin end.");
        b.good(HEAD + " function f: pi; begin end; function g: s5; begin end; type ts = set of small; function h2: ts; begin end; begin end.");
        b.fault(5, HEAD + " type x(n: ar`) = array [1..n] of char; begin end.");
        b.fault(5, HEAD + " type x(n: vec`) = array [1..n] of char; begin end.");
        b.fault(5, HEAD + " type x(n: integer) = 1..n`; begin end.");
        b.fault(5, HEAD + " type x(n: integer) = string(n)`; begin end.");
        b.fault(5, HEAD + " type x(n: integer) = vec(n)`; begin end.");
        b.fault(5, HEAD + " type x(n: integer) = v3`; begin end.");
        b.fault(5, HEAD + " type x(n: integer) = integer`; begin end.");
        b.good(HEAD + " type x(n: integer) = ar; x2(n: integer) = re; var m: x(1); begin m[1] := m.n end.");
        b.fault(5, HEAD + " type x = 1..'a'`; begin end.");
        b.fault(5, HEAD + " type x = 1..true`; begin end.");
        b.fault(5, HEAD + " type x = red..2`; begin end.");
        b.fault(5, HEAD + " type x = string(true`); begin end.");
        b.fault(5, HEAD + " type x = string('a'`); begin end.");
        b.fault(5, HEAD + " type x = vec(true`); begin end.");
        b.fault(5, HEAD + " type x = vec('ab'`); begin end.");
        b.fault(5, HEAD + " type x = box(1`); begin end.");
        b.fault(5, HEAD + " type x = vec(1`, 2); begin end.");
        b.fault(5, HEAD + " var x: vec(a1`); begin end.");
        b.fault(5, HEAD + " var x: vec(s`); begin end.");
        b.good(HEAD + " var x: vec(i * 2 + ord(c)); begin end.");
        b.fault(5, HEAD + " var x: array [1..2] of integer value 4`; begin end.");
        b.fault(5, HEAD + " var x: integer value true`; begin end.");
        b.fault(5, HEAD + " var x: integer value 'ab'`; begin end.");
        b.fault(5, HEAD + " var x: char value 'ab'`; begin end.");
        b.fault(5, HEAD + " var x: string(3) value 4`; begin end.");
        b.fault(5, HEAD + " var x: pi value nil`; begin end.");
        b.fault(5, HEAD + " var x: set of small value []`; begin end.");
        b.fault(5, HEAD + " var x: vec(3) value 3`; begin end.");
        b.fault(5, HEAD + " var x: vec(i) value 3`; begin end.");
        b.good(HEAD + " var x: s5 value 'a'; x2: color value green; x3: small value 5; x4: boolean value not true; begin end.");
    }

    private static void knownOnes(Bench b) {
        b.good(HEAD + " const c1 = 'ab'; c2 = c1; c3 = ('a'); c4 = -5 + 3 * 2 div 4 mod 3; c5 = not (1 < 2) and ('a' <> 'b') or (red <= green); c6 = ord('a'); c7 = chr(65); c8 = succ(red); c9 = pred(5); begin end.");
        b.writes("program a; const c = 'ab'; d = c; e = 'x'; f = -7 div 2; begin write(c, d, e, f) end.", "ababx-3");
        textsInBrackets(b);
        b.fault(5, HEAD + " const x = i`; begin end.");
        b.fault(5, HEAD + " const x = i + 1`; begin end.");
        b.fault(5, HEAD + " const x = abs(1)`; begin end.");
        b.fault(5, HEAD + " const x = sqr(2) + 3`; begin end.");
        b.fault(5, HEAD + " const x = odd(2)`; begin end.");
        b.fault(5, HEAD + " const x = length('ab')`; begin end.");
        b.fault(5, HEAD + " const x = eof`; begin end.");
        b.fault(5, HEAD + " const x = nil`; begin end.");
        b.fault(5, HEAD + " const x = [1]`; begin end.");
        b.fault(5, HEAD + " const x = 1 in [1]`; begin end.");
        b.fault(5, HEAD + " const x = 'a' + 'b'`; begin end.");
        b.fault(5, HEAD + " const x = 'ab' = 'ab'`; begin end.");
        b.fault(5, HEAD + " const x = 'a' < 'ab'`; begin end.");
        b.fault(5, HEAD + " const x = substr('ab', 1, 1)`; begin end.");
        b.fault(5, HEAD + " const x = a1`; begin end.");
        b.fault(5, HEAD + " type x = 1..i`; begin end.");
        b.fault(5, HEAD + " type x = i`..5; begin end.");
        b.fault(5, HEAD + " type x = i`; begin end.");
        b.fault(5, HEAD + " type x = 'ab'`..'cd'; begin end.");
        b.fault(5, HEAD + " type x = string(i`); begin end.");
        b.fault(5, HEAD + " type x = vec(i`); begin end.");
        b.fault(5, HEAD + " var x: array [1..2] of vec(i`); begin end.");
        b.fault(5, HEAD + " var x: record m: vec(i`) end; begin end.");
        b.fault(5, HEAD + " var x: integer value i`; begin end.");
        b.fault(5, in("case i of j`: end"));
        b.fault(5, in("case i of j`..5: end"));
        b.fault(5, in("case i of 1..j`: end"));
        b.fault(5, HEAD + " type x = record case m: integer of i`: () end; begin end.");
        b.fault(5, HEAD + " type x(n: integer) = record case m: integer of n`: () end; begin end.");
        b.fault(5, HEAD + " type x(n: integer) = array [1..n + i`] of char; begin end.");
        b.good(HEAD + " type x(n: integer; m: char; o: boolean) = record u: array [ord(m)..n * 2] of char; v: string(n mod 5 + 1); w: array ['a'..m] of set of 0..n; y: array [false..o] of vec(n - 1) end; begin end.");
    }

    /** A text that is no char is a constant when it stands alone, not in brackets. */
    private static void textsInBrackets(Bench b) {
        String text = HEAD + " const many = 'ab'; one = 'a';";
        b.good(text + " e1 = many; e2 = (one); e3 = (('b')); var x: string(3) value many; x2: string(3) value ('a'); x3: char value (one);"
                + " begin case c of ('a'), ('b')..('c'): end end.");
        b.writes("program a; const m = 'ab'; var x: string(4); begin x := ('cd'); write((m), ('cd'), x, (('ef'))) end.", "abcdcdef");
        b.fault(5, text + " x = ('ab')`; begin end.");
        b.fault(5, text + " x = (('ab'))`; begin end.");
        b.fault(5, text + " x = (many)`; begin end.");
        b.fault(5, text + " x = ('''''')`; begin end.");
        b.fault(2, text + " x = ('ab'`; begin end.");
        b.fault(5, text + " var x: string(3) value ('ab')`; begin end.");
        b.fault(5, text + " var x: string(1) value (many)`; begin end.");
        b.fault(5, text + " var x: integer value (many)`; begin end.");
        b.fault(5, text + " type x = record case k: char of ('ab')`: () end; begin end.");
        b.fault(5, text + " type x = record case k: char of 'a'..(many)`: () end; begin end.");
        b.fault(5, text + " begin case c of (many)`: end end.");
        b.fault(5, text + " begin case c of ('ab')`..'a': end end.");
        b.fault(5, text + " begin case c of 'a'..('ab')`: end end.");
        b.fault(5, text + " begin case i of 1, ('ab')`: end end.");
    }

    private static void guarded(Bench b) {
        String routines = HEAD + " procedure q1(var i: integer); begin end; procedure q2(protected i: integer); begin end; procedure q3(var p: pi); begin end;"
                + " procedure t1(protected i: integer; protected a: ar; protected r: re; protected p: pi; protected vp: pv; protected v: vec; x: integer); begin ";
        String rest = " end; begin end.";
        b.good(routines + "p^ := 1; vp^[1] := 2; q1(p^); q2(i); q2(a[1]); dispose(p); x := i; read(vp^[1]); j := i" + rest);
        b.fault(6, routines + "i `:= 1" + rest);
        b.fault(6, routines + "a[1] `:= 1" + rest);
        b.fault(6, routines + "a `:= a" + rest);
        b.fault(6, routines + "r.f `:= 1" + rest);
        b.fault(6, routines + "r.g[1] `:= 1" + rest);
        b.fault(6, routines + "v[1] `:= 1" + rest);
        b.fault(6, routines + "p `:= nil" + rest);
        b.fault(6, routines + "with r do f `:= 1" + rest);
        b.fault(6, routines + "with r do g[1] `:= 1" + rest);
        b.fault(6, routines + "q1(i`)" + rest);
        b.fault(6, routines + "q1(a[1]`)" + rest);
        b.fault(6, routines + "q3(p`)" + rest);
        b.fault(6, routines + "read(i`)" + rest);
        b.fault(6, routines + "read(x, a[2]`)" + rest);
        b.fault(6, routines + "new(p`)" + rest);
        b.fault(6, routines + "new(vp`, 3)" + rest);
        b.fault(6, routines + "new(vp`)" + rest);
        b.fault(2, routines + "i `= 1" + rest);
        b.fault(5, routines + "v.n` := 1" + rest);
        String tags = "program a; type r = record case k: integer of 1: (x: integer) end; var v: r; pr: ^r; procedure q1(var i: integer); begin end; procedure q2(protected i: integer; j: integer); begin end; begin ";
        b.good(tags + "v.k := 1; q2(v.k, v.k); q1(v.x); read(v.x); with v do k := 2 end.");
        b.fault(6, tags + "q1(v.k`) end.");
        b.fault(6, tags + "read(v.k`) end.");
        b.fault(6, tags + "q1(pr^.k`) end.");
        b.fault(6, tags + "with v do read(k`) end.");
        b.fault(6, tags + "with v do q1(k`) end.");
    }

    private static void atOneWord(Bench b) {
        b.fault(7, HEAD + " type x = 'a'..1 div 0`; begin end.");
        b.fault(5, HEAD + " type x = i`; begin end.");
        b.fault(5, HEAD + " type x(n: integer) = 5..3`; begin end.");
        b.fault(5, HEAD + " type x = array [string(0)`] of char; begin end.");
        b.fault(5, HEAD + " type x = array [set of 1..99`] of char; begin end.");
        b.fault(5, HEAD + " type x = array [array [1..2] of 5..3`] of char; begin end.");
        b.fault(7, HEAD + " type x = array [1..2] of 5..3`; begin end.");
        b.fault(7, HEAD + " type x = vec(5 div 0`, 3); begin end.");
        b.fault(7, HEAD + " type x = box(5 div 0`); begin end.");
        b.fault(7, in("case i of 'a'..5 div 0`: end"));
        b.fault(7, HEAD + " var x: char value 1 div 0`; begin end.");
        b.fault(1, in("i := true `!"));
        b.fault(1, HEAD + " type x = 5..3 `!; begin end.");
        b.fault(5, in("b := i` 5"));
        b.fault(5, in("i := eof`(1)"));
        noOrdinalThatCannotBe(b);
        sidesThatCannotBe(b);
        listsAtTheEnd(b);
    }

    /** 5 of what is no ordinal counts before 7 of a sum with which the same type ends, this before other 5 and 7. */
    private static void noOrdinalThatCannotBe(Bench b) {
        b.fault(5, "program p;type s=set of array[1..2]of 1..1 div 0`;");
        b.fault(5, HEAD + " type x = set of array [1..2, boolean] of 1..1 div 0`; begin end.");
        b.fault(5, HEAD + " type x = set of array [1..2] of array [1..2] of 1..maxint + 1`; begin end.");
        b.fault(5, HEAD + " type x = set of set of 1..1 div 0`; begin end.");
        b.fault(5, HEAD + " type x = set of array [1..2] of 'a'..1 div 0`; begin end.");
        b.fault(5, HEAD + " type x = array [array [1..2] of 1..1 div 0`] of char; begin end.");
        b.fault(5, HEAD + " type x = array [set of 1..1 mod 0`, 1..2] of char; begin end.");
        b.fault(5, HEAD + " type x = array [1..2, set of 1..chr(256)`] of char; begin end.");
        b.fault(5, HEAD + " type x = array [1..2] of set of array [1..2] of 1..1 div 0`; begin end.");
        b.fault(5, HEAD + " type x = record m: set of array [1..2] of 1..1 div 0` end; begin end.");
        b.fault(5, HEAD + " type x = record m: set of array [1..2] of 1..1 div 0`; case n: small of 1: () end; begin end.");
        b.fault(5, HEAD + " type x(n: integer) = set of array [1..n] of 1..1 div 0`; begin end.");
        b.fault(5, HEAD + " type x(n: integer) = array [1..n] of set of array [1..2] of n..1 div 0`; begin end.");
        b.fault(5, HEAD + " var x: set of array [1..2] of 1..succ(maxint)`; begin end.");
        b.fault(5, HEAD + " var x, x2: array [1..2] of set of set of 1..pred(false)` value 3; begin end.");
        b.fault(7, HEAD + " type x = set of 1..1 div 0`; begin end.");
        b.fault(7, HEAD + " type x = array [1..2] of set of 1..1 div 0`; begin end.");
        b.fault(7, HEAD + " type x = array [1..2] of 1..1 div 0`; begin end.");
        b.fault(7, HEAD + " type x = array [1..1 div 0`] of char; begin end.");
        b.fault(7, HEAD + " type x = array [1..2] of 'a'..1 div 0`; begin end.");
        b.fault(7, HEAD + " type x(n: integer) = 1..1 div 0`; begin end.");
        b.fault(7, HEAD + " type x(n: integer) = set of 1..1 div 0`; begin end.");
        b.fault(7, HEAD + " type x(n: integer) = array [1..n] of n..1 div 0`; begin end.");
        b.fault(7, HEAD + " type x = record m: 1..1 div 0` end; begin end.");
        b.fault(7, HEAD + " type x = string(1 div 0`); begin end.");
        b.fault(7, HEAD + " type x = string(chr(256)`); begin end.");
        b.fault(7, HEAD + " type x = set of string(1 div 0`); begin end.");
        b.fault(7, HEAD + " type x = set of vec(1 div 0`); begin end.");
        b.fault(7, HEAD + " type x = vec(chr(256)`); begin end.");
        b.fault(7, HEAD + " var x: 1..1 div 0` value 4; begin end.");
        b.fault(7, HEAD + " type x = 1..1 div 0` 5; begin end.");
        b.fault(7, HEAD + " type x = 1 div 0`; begin end.");
        b.fault(1, HEAD + " type x = set of array [1..2] of 1..1 div 0 `!; begin end.");
        b.fault(5, HEAD + " type x = set of array [1..2] of string(0)`; begin end.");
        b.fault(5, HEAD + " type x = set of array [1..2] of 5..3`; begin end.");
        b.fault(5, HEAD + " type x = set of array [1..2] of 1..'a'`; begin end.");
    }

    /** An operator that does not fit is other 5, behind 7 of the sum that ends at the same word. */
    private static void sidesThatCannotBe(Bench b) {
        b.fault(7, HEAD + " const x = true + 1 div 0`; begin end.");
        b.fault(7, HEAD + " const x = 1 div 0 + true`; begin end.");
        b.fault(7, HEAD + " const x = 1 div 0 and true`; begin end.");
        b.fault(7, HEAD + " const x = 1 div 0 = true`; begin end.");
        b.fault(7, HEAD + " const x = not (1 div 0)`; begin end.");
        b.fault(7, HEAD + " const x = -chr(256)`; begin end.");
        b.fault(7, HEAD + " type x = 1..red * (1 mod 0)`; begin end.");
        b.fault(7, HEAD + " type x = vec(true + 1 div 0`); begin end.");
        b.fault(7, in("case i of true + 1 div 0`: end"));
        b.fault(7, HEAD + " const x = 'a' + 1 div 0`; begin end.");
        b.fault(7, HEAD + " const x = 'a' - 1 div 0`; begin end.");
        b.fault(7, HEAD + " const x = chr(7) + pred(-maxint)`; begin end.");
        b.fault(7, HEAD + " const x = 1 + chr(256)`; begin end.");
        b.fault(7, HEAD + " type x = 1..'a' + (1 mod 0)`; begin end.");
        b.fault(7, in("case i of 'a' + 1 div 0`: end"));
        b.fault(5, HEAD + " type x = set of array [1..2] of 1..true + 1 div 0`; begin end.");
        b.fault(5, HEAD + " type x = set of array [1..2] of 1..'a' + 1 div 0`; begin end.");
        b.fault(5, HEAD + " const x = 'a' + 1`; begin end.");
        b.fault(5, HEAD + " const x = 'a' + i div 0`; begin end.");
        b.fault(5, HEAD + " const x = 'a' + 'b'`; begin end.");
        b.fault(5, HEAD + " const x = 'a' + 1 div 0` + 2; begin end.");
        b.fault(5, HEAD + " const x = 1 div 0 + true` + 2; begin end.");
        b.fault(5, HEAD + " const x = 1 div 0 + true` = 2; begin end.");
        b.fault(5, HEAD + " const x = (1 div 0 + true`) + 2; begin end.");
        b.fault(5, HEAD + " const x = ord(1 div 0 + true`); begin end.");
        b.fault(5, HEAD + " const x = i + 1 div 0`; begin end.");
        b.fault(5, HEAD + " const x = true + i div 0`; begin end.");
        b.fault(5, HEAD + " const x = 'ab' + 1 div 0`; begin end.");
        b.fault(5, HEAD + " const x = [1] + 1 div 0`; begin end.");
        b.fault(5, HEAD + " const x = true + 1`; begin end.");
        b.fault(5, HEAD + " const x = not 1`; begin end.");
        b.fault(5, HEAD + " const x = -'ab'`; begin end.");
        b.fault(5, HEAD + " const x = not 'ab'`; begin end.");
        b.fault(5, HEAD + " var x: string(3) value -'ab'`; begin end.");
        b.fault(5, in("i := true + 1 div 0`"));
        b.fault(5, in("if true + 1` then"));
        b.fault(5, in("i := true + 1` 5"));
        b.fault(5, in("case i of -'ab'`: end"));
        b.fault(5, in("case i of 1 + true`: end"));
        b.fault(5, in("a1 := -a1`"));
        b.fault(5, in("i := -a1`"));
        b.fault(5, in("b := not a1`"));
        b.fault(5, in("read(i); b := not r1`"));
    }

    /** A type that tells a name that is just being told is 4 behind all the others, but 5 of what is missing and 2. */
    private static void listsAtTheEnd(Bench b) {
        b.fault(4, HEAD + " type x = (x)`; begin end.");
        b.fault(4, HEAD + " type x = (x)` 5; begin end.");
        b.fault(4, HEAD + " var x, x2: array [1..2] of (x2, x3)`; begin end.");
        b.fault(7, HEAD + " type x = array [(x)] of 1..1 div 0`; begin end.");
        b.fault(7, HEAD + " type x = array [(x)] of 5..3`; begin end.");
        b.fault(5, HEAD + " type x = array [(x)] of 1..'a'`; begin end.");
        b.fault(5, HEAD + " type x = array [(x)] of vec`; begin end.");
        b.fault(5, HEAD + " type x = set of array [(x)] of 1..1 div 0`; begin end.");
        b.fault(5, HEAD + " type x(n: integer) = (x)`; begin end.");
    }
}
