/** Part 2: the grammar (fault 2), what names mean (3, 4), the forward routines (10). */
public final class GrammarTest {
    public static void main(String[] args) {
        Bench b = new Bench("grammar");
        blocks(b);
        types(b);
        routines(b);
        statements(b);
        sums(b);
        unknown(b);
        toldTwice(b);
        b.close();
    }

    private static void blocks(Bench b) {
        b.good("program a; begin end.");
        b.good("program a; const c = 1; var x: integer; type t = char; const d = c; var y: t; begin end.");
        b.fault(2, "program `; begin end.");
        b.fault(2, "program a `begin end.");
        b.fault(2, "program a; const `begin end.");
        b.fault(2, "program a; type `var x: char; begin end.");
        b.fault(2, "program a; var `begin end.");
        b.fault(2, "program a; const c `: 1; begin end.");
        b.fault(2, "program a; const c = 1 `d = 2; begin end.");
        b.fault(2, "program a; const c = 1; `; begin end.");
        b.fault(2, "program a; const c = `; begin end.");
        b.fault(2, "program a; const c = 1; `5 = 1; begin end.");
        b.fault(2, "program a; var x `= integer; begin end.");
        b.fault(2, "program a; var x, `: integer; begin end.");
        b.fault(2, "program a; var x: integer value `; begin end.");
        b.fault(2, "program a; var x: integer `:= 3; begin end.");
        b.fault(2, "program a; begin end`;");
        b.fault(2, "program a; begin end`..");
        b.fault(2, "program a; begin `. end");
        b.fault(2, "program a; begin `var end.");
    }

    private static void types(Bench b) {
        b.good("program a; type r = record end; s = record a, b: char; c: integer; end; u = record a: char end; begin end.");
        b.good("program a; type r = record case k: boolean of true: (); false: (x: char;); end; begin end.");
        b.good("program a; type r = record a: char; case k: boolean of true: (case m: char of 'a', 'c'..'d': (z: integer)); end; begin end.");
        b.fault(2, "program a; type r = record `; end; begin end.");
        b.fault(2, "program a; type r = record a: char `b: char end; begin end.");
        b.fault(2, "program a; type r = record a: char `case k: boolean of true: () end; begin end.");
        b.fault(2, "program a; type r = record case k: boolean of `end; begin end.");
        b.fault(2, "program a; type r = record case k `of true: () end; begin end.");
        b.fault(2, "program a; type r = record case k: boolean of true `(x: char) end; begin end.");
        b.fault(2, "program a; type r = record case k: boolean of true: `x: char end; begin end.");
        b.fault(2, "program a; type r = record case k: boolean of true: (x: char `end; begin end.");
        b.fault(2, "program a; type r = record case k: boolean of true: (x: char); `, end; begin end.");
        b.fault(3, "program a; type r = record case k: boolean of true: (x: char); `b: char end; begin end.");
        b.fault(2, "program a; type r = record case k: `1..2 of 1: () end; begin end.");
        b.fault(2, "program a; type t = array `1..2 of char; begin end.");
        b.fault(2, "program a; type t = array [1..2, `] of char; begin end.");
        b.fault(2, "program a; type t = array [1..2] `char; begin end.");
        b.fault(2, "program a; type t = set `char; begin end.");
        b.fault(2, "program a; type t = ^`5; begin end.");
        b.fault(2, "program a; type t = string`; begin end.");
        b.fault(2, "program a; type t = string(5`; begin end.");
        b.fault(2, "program a; type t = (`); begin end.");
        b.fault(2, "program a; type t = (x, `5); begin end.");
        b.fault(2, "program a; type t = (x `; begin end.");
        b.fault(2, "program a; type t = `; begin end.");
        b.fault(2, "program a; type t = 5`; begin end.");
        b.fault(2, "program a; type t = integer`..5; begin end.");
        b.fault(2, "program a; type t = integer`(5); begin end.");
        b.fault(2, "program a; type t(`) = array [1..2] of char; begin end.");
        b.fault(2, "program a; type t(n: integer`, = array [1..2] of char; begin end.");
        b.fault(2, "program a; type t(n `) = array [1..2] of char; begin end.");
        b.fault(2, "program a; type t(n: integer; `) = array [1..2] of char; begin end.");
        b.good("program a; type t(n, m: integer; c: char) = array [1..n] of char; begin end.");
        b.fault(2, "program a; type t(n: integer) = array [1..`] of char; begin end.");
        b.fault(2, "program a; type t(n: integer) = array [1..n] of char; u = t(`); begin end.");
        b.fault(2, "program a; type t(n, m: integer) = array [1..n] of char; u = t(3, `); begin end.");
        b.fault(2, "program a; type t(n: integer) = array [1..n] of char; u = t(3 `; begin end.");
        b.fault(2, "program a; type t(n: integer) = array [1..n] of char; u = t(3 `= 3); begin end.");
        b.fault(2, "program a; type t(n: integer) = array [n`] of char; begin end.");
    }

    private static void routines(Bench b) {
        b.good("program a; procedure p; begin end; function f(x: char; var y, z: char; protected u: char): char; begin end; begin end.");
        b.fault(2, "program a; procedure p `begin end; begin end.");
        b.fault(2, "program a; procedure p; begin end`.");
        b.fault(2, "program a; procedure p(`); begin end; begin end.");
        b.fault(2, "program a; procedure p(x `); begin end; begin end.");
        b.fault(2, "program a; procedure p(x: `5..6); begin end; begin end.");
        b.fault(2, "program a; procedure p(x: char `, y: char); begin end; begin end.");
        b.fault(2, "program a; procedure p(var `protected x: char); begin end; begin end.");
        b.fault(2, "program a; procedure p`: char; begin end; begin end.");
        b.fault(2, "program a; function f`; begin end; begin end.");
        b.fault(2, "program a; function f: `^char; begin end; begin end.");
        b.good("program a; procedure p(x: char); forward; function f: char; forward; procedure p; begin x := 'a' end; function f; begin end; begin end.");
        b.fault(2, "program a; procedure p(x: char); forward; procedure p`(x: char); begin end; begin end.");
        b.fault(2, "program a; function f: char; forward; function f`: char; begin end; begin end.");
        b.fault(2, "program a; procedure p; forward; procedure p; `forward; begin end.");
        b.fault(2, "program a; procedure p; forward `begin end.");
        b.fault(10, "program a; procedure p; forward; `begin end.");
        b.fault(10, "program a; procedure q; procedure p; forward; `begin end; begin end.");
        b.fault(10, "program a; procedure p; forward; procedure q; procedure p; begin end; begin end; `begin end.");
        b.good("program a; procedure p; forward; procedure q; begin p end; procedure p; begin q end; begin end.");
    }

    private static void statements(Bench b) {
        String head = "program a; var x: integer; begin ";
        b.good(head + ";;; if x = 1 then else; while x = 1 do; repeat until x = 1; for x := 1 to 2 do; begin end; case x of 1:; 2: end end.");
        b.good(head + "case x of 1: x := 2; 3, 5..7: otherwise x := 1; x := 2 end; case x of 1: ; otherwise end end.");
        b.fault(2, head + "x `= 3 end.");
        b.fault(2, head + "x := `end.");
        b.fault(2, head + "x := 1 `x := 2 end.");
        b.fault(2, head + "if x = 1 `x := 2 end.");
        b.fault(2, head + "if x = 1 then x := 2; `else x := 3 end.");
        b.fault(2, head + "while x = 1 `then x := 1 end.");
        b.fault(2, head + "repeat x := 1 `end.");
        b.fault(2, head + "for x `= 1 to 2 do end.");
        b.fault(2, head + "for x := 1 `do end.");
        b.fault(2, head + "for x := 1 to 2 `; end.");
        b.fault(2, head + "for `5 := 1 to 2 do end.");
        b.fault(2, head + "case x `1: end end.");
        b.fault(2, head + "case x of `end end.");
        b.fault(2, head + "case x of `otherwise end end.");
        b.fault(2, head + "case x of 1 `x := 2 end end.");
        b.fault(2, head + "case x of 1: x := 2 `3: x := 3 end end.");
        b.fault(2, head + "case x of 1: ; `; 3: end end.");
        b.fault(2, head + "case x of 1: otherwise x := 2 `otherwise end end.");
        b.fault(2, head + "with `do end.");
        b.fault(2, head + "with `1 do end.");
        b.fault(2, head + "begin x := 1 `.");
        b.fault(2, head + "x`(1) end.");
        b.fault(2, head + "halt`(1) end.");
        b.fault(2, head + "write(`) end.");
        b.fault(2, head + "writeln(`) end.");
        b.fault(2, head + "write(1, `) end.");
        b.fault(2, head + "write(1 `end.");
        b.fault(2, head + "read(`) end.");
        b.fault(2, head + "read(`5) end.");
        b.fault(2, head + "read(`(x)) end.");
        b.fault(2, head + "read(x, `) end.");
        b.fault(2, head + "new(`nil) end.");
        b.fault(2, head + "dispose(`) end.");
        b.good(head + "writeln; writeln(1, 'a', 'ab', true); write(x); halt end.");
    }

    private static void sums(Bench b) {
        String head = "program a; var x: integer; y: boolean; function f: integer; begin end; begin ";
        b.good(head + "x := -1 + 2 * (3 - x) div 4 mod 5; y := not not y and (x = 1) or (x in [1, 2..3, x]); y := [] = [] end.");
        b.fault(2, head + "x := 1 + `- 2 end.");
        b.fault(2, head + "x := 1 * `- 2 end.");
        b.fault(2, head + "y := 1 < 2 `< 3 end.");
        b.fault(2, head + "x := (1 + 2 `; end.");
        b.fault(2, head + "x := (`) end.");
        b.fault(2, head + "y := x in [1, `] end.");
        b.fault(2, head + "y := x in [1 `end.");
        b.fault(2, head + "y := x in [1..`] end.");
        b.fault(2, head + "x := f`(1) end.");
        b.fault(2, head + "x := f`^ end.");
        b.fault(2, head + "x := maxint`.a end.");
        b.fault(2, head + "x := 5`[1] end.");
        b.fault(2, head + "y := eof`(1) end.");
        b.fault(2, head + "x := abs(`) end.");
        b.fault(2, head + "x := abs(1 `; end.");
        b.fault(2, head + "x := `end.");
        b.fault(2, head + "x := `do end.");
    }

    private static void unknown(Bench b) {
        b.fault(3, "program a; begin `x := 1 end.");
        b.fault(3, "program a; begin `a := 1 end.");
        b.fault(3, "program a; const c = 5; begin `c := 1 end.");
        b.fault(3, "program a; begin `integer := 1 end.");
        b.fault(3, "program a; begin `abs(1) end.");
        b.fault(3, "program a; begin write(`write) end.");
        b.fault(3, "program a; begin write(`integer) end.");
        b.fault(3, "program a; procedure p; begin end; begin write(`p) end.");
        b.fault(3, "program a; var x: `foo; begin end.");
        b.fault(3, "program a; const c = 5; var x: array [1..2] of set of `d; begin end.");
        b.fault(3, "program a; const c = 5; procedure p(x: `c); begin end; begin end.");
        b.fault(3, "program a; function f: `x; begin end; begin end.");
        b.fault(3, "program a; type r = record case k: `x of 1: () end; begin end.");
        b.fault(3, "program a; const c = `c; begin end.");
        b.fault(3, "program a; type t = record x: `t end; begin end.");
        b.fault(3, "program a; var x: integer value `x; begin end.");
        b.fault(3, "program a; var x: 1..`x; begin end.");
        b.fault(3, "program a; type t = array [(u, v, w), u..`x] of char; begin end.");
        b.good("program a; type t = array [(u, v, w), u..v] of char; begin end.");
        b.fault(3, "program a; procedure p(x: integer); begin end; begin `x := 1 end.");
        b.fault(3, "program a; procedure integer(x: `integer); begin end; begin end.");
        b.good("program a; procedure p(integer: integer; x: integer); begin integer := x end; begin end.");
        b.good("program a; procedure p; begin p end; begin end.");
        b.good("program a; type p = ^t; t = record n: p; m: ^t; k: ^u end; u = char; begin end.");
        b.fault(3, "program a; type p = ^`t; begin end.");
        b.fault(3, "program a; type p = ^`t; q = ^u; const t = 5; type u = char; begin end.");
        b.fault(3, "program a; type p = ^`red; q = (red, green); begin end.");
        b.fault(3, "program a; const c = 5; type p = ^`c; begin end.");
        b.fault(3, "program a; var p: ^`t; begin end.");
        b.fault(3, "program a; type t(n: integer) = record p: ^`n end; begin end.");
        b.fault(3, "program a; type t(n: integer) = record case k: `n of 1: () end; begin end.");
        b.fault(1, "program a; type p = ^t; `! begin end.");
        b.fault(3, "program a; type p = ^`t; q = ^u; begin end.");
        b.good("program a; type t = char; procedure p; type q = ^t; t = integer; var x: q; begin x^ := 'a' end; begin end.");
        b.fault(3, "program a; type t = record x: char end; var v: t; begin v.`y := 'a' end.");
        b.fault(3, "program a; type t(n: integer) = array [1..n] of char; var v: t(3); begin write(v.`m) end.");
        b.fault(3, "program a; type t(n: integer) = record x: char end; var v: t(3); begin with v do write(`n) end.");
        b.fault(3, "program a; begin for `i := 1 to 2 do end.");
        b.fault(3, "program a; var r: `real; begin end.");
        b.fault(3, "program a; var c: string(3); begin for `c := 1 to 2 do end.");
        b.fault(3, "program a; procedure p(i: integer); begin for `i := 1 to 2 do end; begin end.");
        b.fault(3, "program a; var i: integer; procedure p; begin for `i := 1 to 2 do end; begin end.");
        b.fault(3, "program a; var i: integer; r: record i: integer end; begin with r do for `i := 1 to 2 do end.");
        b.fault(3, "program a; function f: integer; begin f := 1 end; begin `f end.");
        b.fault(3, "program a; function f: integer; begin f := 1 end; begin `f := 2 end.");
        b.fault(3, "program a; function f: integer; procedure p; begin `f := 1 end; begin f := 1 end; begin end.");
        b.fault(3, "program a; function f: integer; begin read(`f) end; begin end.");
        b.fault(3, "program a; begin read(`maxint) end.");
        b.fault(3, "program a; procedure p; begin end; begin new(`p) end.");
        b.fault(3, "program a; begin with `x do end.");
        b.fault(3, "program a; begin dispose(`x) end.");
        b.fault(3, "program a; var x: integer; begin with `integer do end.");
    }

    private static void toldTwice(Bench b) {
        b.fault(4, "program a; const c = 5; `c = 6; begin end.");
        b.fault(4, "program a; var x, `x: integer; begin end.");
        b.fault(4, "program a; var x: integer; `X: char; begin end.");
        b.fault(4, "program a; type t = (u, v, `u); begin end.");
        b.fault(4, "program a; const u = 1; type t = (`u, v); begin end.");
        b.fault(4, "program a; type t = record x, `x: char end; begin end.");
        b.fault(4, "program a; type t = record x: char; case `x: char of 'a': () end; begin end.");
        b.fault(4, "program a; type t = record case k: boolean of true: (x: char); false: (`x: char) end; begin end.");
        b.good("program a; type t = record x: char; y: record x: char end end; var x: t; begin end.");
        b.fault(4, "program a; type t(n, `n: integer) = array [1..n] of char; begin end.");
        b.fault(4, "program a; type t(n: integer; `n: integer) = array [1..n] of char; begin end.");
        b.good("program a; var n: integer; type t(n: integer) = record n: char end; begin end.");
        b.fault(4, "program a; procedure p(x: char; `x: char); begin end; begin end.");
        b.fault(4, "program a; procedure p(x: char); var `x: char; begin end; begin end.");
        b.fault(4, "program a; procedure p(x: char); type t = (`x); begin end; begin end.");
        b.good("program a; procedure p(p: char); begin end; function f: char; var f: char; begin f := 'a' end; begin end.");
        b.fault(4, "program a; procedure p; begin end; procedure `p; begin end; begin end.");
        b.fault(4, "program a; procedure p; forward; function `p: char; begin end; begin end.");
        b.fault(4, "program a; procedure p; forward; procedure p; begin end; procedure `p; begin end; begin end.");
        b.fault(4, "program a; procedure p; forward; var `p: char; begin end.");
        b.good("program a; procedure p; forward; procedure q; procedure p; begin end; begin end; procedure p; begin end; begin end.");
        b.fault(4, "program a; var x: (x, y)`; begin end.");
        b.fault(4, "program a; var x: array [(x, y)] of char`; begin end.");
        b.fault(4, "program a; type t = (u, t)`; begin end.");
        b.fault(4, "program a; type t(n: integer) = record x: (t) end`; begin end.");
        b.good("program a; type t(n: integer) = array [1..n] of (n, m); var x: t(2); begin x[1] := n end.");
        b.good("program a; var integer: char; procedure write(x: char); begin end; begin write(integer) end.");
        b.fault(8, "program a; type s(n: integer) = array [1..n] of char; var x, y, z: s(3)`; begin end.");
    }
}
