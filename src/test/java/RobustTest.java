import java.util.ArrayList;
import java.util.List;
import java.util.Random;
import java.util.regex.Matcher;
import java.util.regex.Pattern;

/** Programs with words taken out, put in or changed: whatever they are, nothing is thrown but by a throw of the class. */
public final class RobustTest {
    private static final int TURNS = 4000;
    private static final int FEW = 12;
    private static final int THROWN = -1_000_000;
    private static final Pattern WORD = Pattern.compile("\\w+(#\\w+)?|'([^']|'')*'|<>|<=|>=|:=|\\.\\.|\\S");
    private static final int[] NUMBERS = {0, 1, 2, 3, 63, 64, 80, 81, 256, 4000, 4001, 2147483647};
    private static final int[] ASKED = {-1, 0, 1, 2, 3, 4, 5, 9, 12, 100, Integer.MAX_VALUE, Integer.MIN_VALUE};
    private static final String[] TEXTS = {
        "program a; const c = 5; t = 'hello'; type col = (red, green, blue); sm = 0..c + 4; vec(n: integer) = array [1..n] of integer; mat(r, k: sm) = array [1..r] of vec(k);"
            + " var i, j: integer value 2; v, u: vec(4); m: mat(2, 3); s: string(10) value 'ab'; e: set of sm; w: vec(i + j);"
            + " procedure fill(var z: vec; x: integer); var k: integer; begin for k := 1 to z.n do z[k] := x * k end;"
            + " begin fill(v, 3); u := v; fill(w, 2); for i := 1 to 2 do for j := 1 to 3 do m[i, j] := i * 10 + j; e := [1, 3..5] + [7]; write(m[2][1], u[4], card(e), 3 in e, t + s) end.",
        "program a; type link = ^node; node = record key: integer; next: link end; name(cap: integer) = record s: string(cap + 1); len: 0..80 end; pn = ^name;"
            + " var h, p: link; q: pn; i: integer; function twice(x: name): integer; begin twice := length(x.s) * 2 end;"
            + " begin h := nil; for i := 1 to 3 do begin new(p); p^.key := i; p^.next := h; h := p end; while p <> nil do begin write(p^.key); p := p^.next end;"
            + " new(q, 5); q^.s := 'five5'; q^.len := 3; write(twice(q^), q^.cap); with q^ do begin s := substr(s, 2, 3) + 'x'; write(index(s, 'x'), s) end; dispose(q); read(i) end.",
        "program a; type d = 1..5; s3 = string(3); r = record id: integer; case k: d of 1, 2: (x: integer; y: char); 3: (z: s3; case m: boolean of true: (u: s3); false: (w: set of d)) end;"
            + " var v, v2: r; a: array [d] of r; i: d; procedure q(var x: s3; protected y: r); begin v.k := 1; v.x := 7; write(y.k, x) end;"
            + " begin v.k := 3; v.z := 'abc'; v.m := true; with v do begin u := z; id := ord(k) end; v2 := v; a[2] := v2; i := 4;"
            + " case a[2].k of 1: write(1); 3..4: write(a[2].u); otherwise halt end; repeat i := pred(i) until i <= 2; q(v.z, v2) end.",
        "program a; type s = string(80); f3 = set of 0..63; function fact(n: integer): integer; begin if n <= 1 then fact := 1 else fact := n * fact(n - 1) end;"
            + " function up(x: s): s; forward; procedure later(n: integer); begin if n > 0 then begin write(n); later(n - 1) end else writeln(up('x')) end;"
            + " function up; var y: s; begin y := x + chr(65); up := y + x end; var i, j: integer; b: boolean value true; f: f3;"
            + " begin write(fact(6), odd(3), abs(-4), sqr(5)); later(3); f := [0..5] * [3..9] - [4]; b := not b and (1 < 2) or ([3] <= f) and eof; while b do b := false; read(i, j); write(i mod 3, j div 2, up('ab') < 'abc') end.",
        "program a; type d = 0..9; box(n, m: d) = record a: array [0..n] of array [1..m + 1] of 0..m; case k: boolean of true: (t: string(n + 1)); false: (e: set of 0..m) end; two(n: d) = record b: box(n, n + 1); c: box(1, n) end;"
            + " var x, y: two(2); p: ^two; procedure q(var z: box; w: box); var l: box(z.n, w.m); begin l := z; l.a[1, 1] := w.a[1][1]; z := l end;"
            + " begin x.b.a[2, 3] := 3; x.b.a[1, 1] := 0; x.b.k := true; x.b.t := 'abc'; y := x; q(y.b, x.b); y.b.k := false; y.b.e := [3]; new(p, 3); p^.c.a[1, 4] := 1; write(y.b.n, p^.n, p^.c.m); x := p^ end.",
    };

    private final Bench bench;
    private final Random random = new Random(20261119);
    private final List<List<String>> programs = new ArrayList<>();
    private String text = "";

    private RobustTest(Bench bench) {
        this.bench = bench;
        for (String t : TEXTS) {
            programs.add(wordsOf(t));
        }
    }

    public static void main(String[] args) {
        Bench b = new Bench("robust");
        for (String t : TEXTS) {
            b.good(t);
        }
        new RobustTest(b).changeAll();
        b.close();
    }

    private static List<String> wordsOf(String text) {
        List<String> words = new ArrayList<>();
        for (Matcher m = WORD.matcher(text); m.find();) {
            words.add(m.group());
        }
        return words;
    }

    private void changeAll() {
        int good = 0;
        for (int i = 0; i < TURNS; i++) {
            SchemaPascal x = new SchemaPascal();
            text = changed(programs.get(i % programs.size()));
            Bench.feed(x, text);
            good += run(x) ? 1 : 0;
        }
        check(good > TURNS / 10, "enough of the programs have no fault");
    }

    /** Numbers are changed most often, as such programs have no fault as a rule and go wrong later. */
    private String changed(List<String> program) {
        List<String> words = new ArrayList<>(program);
        for (int n = 1 + random.nextInt(3); n > 0; n--) {
            int at = random.nextInt(words.size());
            String other = words.get(random.nextInt(words.size()));
            switch (random.nextInt(10)) {
                case 0: words.remove(at); break;
                case 1: words.add(at, other); break;
                case 2: words.set(at, other); break;
                case 3: words.set(wordThatIs(words, false), words.get(wordThatIs(words, false))); break;
                default: words.set(wordThatIs(words, true), "" + NUMBERS[random.nextInt(NUMBERS.length)]); break;
            }
        }
        return String.join(" ", words);
    }

    /** Where some number stands, or some name. */
    private int wordThatIs(List<String> words, boolean number) {
        int at = random.nextInt(words.size());
        for (int i = 0; i < words.size(); i++) {
            char first = words.get(at).charAt(0);
            if (number ? Character.isDigit(first) : Character.isLetter(first)) {
                return at;
            }
            at = (at + 1) % words.size();
        }
        return at;
    }

    /** Compiles and runs what the tape has; whether it has no fault. */
    private boolean run(SchemaPascal x) {
        int answer = call(() -> x.compile());
        boolean isGood = answer == 0;
        check(isGood == (x.fault() == 0), "a fault has a code");
        check(isGood || -1 - answer >= 0 && -1 - answer <= text.length(), "a fault has a place");
        call(() -> x.input(random.nextInt(9) - 2));
        call(() -> {
            x.start();
            return 0;
        });
        for (int i = 0; i < 4; i++) {
            ask(x);
            call(() -> x.step(random.nextInt(30)));
        }
        call(() -> x.step(2000));
        ask(x);
        for (int k = 0; x.told(4) > 0 && k < x.activation(0, 2); k++) {
            countCells(x, k);
        }
        check(x.told(2) > 0 == (x.told(3) >= 0 && x.told(3) < text.length()), "an error has a place");
        return isGood;
    }

    private void ask(SchemaPascal x) {
        for (int i = 0; i < 6; i++) {
            int a = asked();
            int b = asked();
            int c = asked();
            call(() -> x.told(a));
            call(() -> x.activation(a, b));
            call(() -> (int) x.value(a, b, c));
            call(() -> x.variable(a, b, c));
            call(() -> x.thing(a, b));
            call(() -> (int) x.cell(a, b));
            call(() -> x.out(a));
        }
    }

    private int asked() {
        return ASKED[random.nextInt(ASKED.length)];
    }

    /** As many cells have something as value() answers; of few cells, as an object has no more than 512 calls. */
    private void countCells(SchemaPascal x, int k) {
        int cells = call(() -> x.variable(0, k, 0));
        int defined = 0;
        for (int c = 0; c < cells && cells <= FEW; c++) {
            int cell = c;
            defined += call(() -> (int) (x.value(0, k, cell) & 1)) != THROWN ? 1 : 0;
        }
        check(cells < 0 || cells > FEW || x.variable(0, k, 1) == defined, "as many cells have something as are told");
    }

    private interface Call {
        int answer();
    }

    private void check(boolean holds, String what) {
        bench.due(holds ? what : text + " | " + what, holds ? 1 : 0, 1);
    }

    /** What the call answers, or THROWN. */
    private int call(Call call) {
        try {
            return call.answer();
        } catch (RuntimeException e) {
            boolean isDue = e.getClass() == IllegalStateException.class || e.getClass() == IndexOutOfBoundsException.class
                    || e.getClass() == IllegalArgumentException.class || e.getClass() == UnsupportedOperationException.class;
            boolean isOurs = e.getStackTrace().length > 0 && e.getStackTrace()[0].getClassName().equals("SchemaPascal");
            check(isDue && isOurs, "only the class throws");
            return THROWN;
        }
    }
}
