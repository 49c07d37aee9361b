/** Part 1: words, blanks, notes; fault 1. */
public final class WordsTest {
    public static void main(String[] args) {
        Bench b = new Bench("words");
        blanksAndNotes(b);
        names(b);
        numbers(b);
        texts(b);
        signs(b);
        b.close();
    }

    private static void blanksAndNotes(Bench b) {
        b.good("\t\n\r program{}a(**);{ (* }begin(* { *)end{*).");
        b.good("program a; (* * } begin end. { the end }");
        b.good("program a; (*) *) begin end.");
        b.fault(1, "program a; `(*) begin end.");
        b.fault(1, "program a; `{ begin end.");
        b.fault(1, "program a; `(* begin end. *");
        b.fault(1, "program a; begin end. `{");
        b.fault(1, "program a; begin end. `\f");
        b.fault(1, "program a;`\0begin end.");
        b.fault(2, "program a; begin end `");
        b.fault(2, "program a; begin end {}`");
        b.fault(2, "program a; begin end. `x");
        b.fault(1, "program a; begin end. `!");
        b.fault(2, "`");
        b.fault(2, "  `");
        b.writes("program a; begin { write(1) ( } write(2) (* write(3) } end.", "2");
    }

    private static void names(Bench b) {
        b.good("PROGRAM a; Var x_1: Integer; BEGIN X_1 := 3 END.");
        b.good("program a; var a2345678901234567890: char; begin A2345678901234567890 := 'x' end.");
        b.fault(1, "program a; var `a23456789012345678901: char; begin end.");
        b.fault(1, "program a; var `_x: char; begin end.");
        b.fault(1, "program a; var `\u00e4: char; begin end.");
        b.fault(2, "program a; var `Value: char; begin end.");
        b.fault(2, "program a; var `forward: char; begin end.");
        b.good("program a; var programs, conster: char; begin end.");
    }

    private static void numbers(Bench b) {
        b.writes("program a; begin write(0, ' ', 007, ' ', 2147483647, ' ', 0002147483647) end.", "0 7 2147483647 2147483647");
        b.writes("program a; begin write(2#101, ' ', 16#fF, ' ', 36#z, ' ', 16#7fffffff, ' ', 010#12) end.", "5 255 35 2147483647 12");
        b.fault(1, "program a; begin write(`2147483648) end.");
        b.fault(1, "program a; begin write(`99999999999999999999999) end.");
        b.fault(1, "program a; begin write(`16#80000000) end.");
        b.fault(1, "program a; begin write(`1#0) end.");
        b.fault(1, "program a; begin write(`0#0) end.");
        b.fault(1, "program a; begin write(`37#1) end.");
        b.fault(1, "program a; begin write(`99999999999#1) end.");
        b.fault(1, "program a; begin write(`10#) end.");
        b.fault(1, "program a; begin write(10 `#1) end.");
        b.fault(1, "program a; begin write(`2#102) end.");
        b.fault(1, "program a; begin write(`2#1a) end.");
        b.fault(1, "program a; begin write(`12a) end.");
        b.fault(1, "program a; begin write(12`_) end.");
        b.fault(1, "program a; begin write(16#ff`#1) end.");
        b.good("program a; var x: 1..3; begin end.");
    }

    private static void texts(Bench b) {
        b.writes("program a; begin write('''', 'a''b', '{', '(*', '\u00ff') end.", "'a'b{(*\u00ff");
        String eighty = "12345678901234567890123456789012345678901234567890123456789012345678901234567890";
        b.writes("program a; begin write('" + eighty + "') end.", eighty);
        b.writes("program a; begin write('''" + eighty.substring(1) + "') end.", "'" + eighty.substring(1));
        b.fault(1, "program a; begin write(`'" + eighty + "x') end.");
        b.fault(1, "program a; begin write(`'') end.");
        b.fault(1, "program a; begin write(`''') end.");
        b.fault(1, "program a; begin write(`'a) end.");
        b.fault(1, "program a; begin write(`'a\tb') end.");
        b.fault(1, "program a; begin write(`'a\nb') end.");
    }

    private static void signs(Bench b) {
        b.writes("program a; var x:integer;begin x:=3;write(x<>3,x<=3,x>=4,x<3,x>2,x=3)end.", "falsetruefalsefalsetruetrue");
        b.fault(2, "program a; var x: 1..`.3; begin end.");
        b.fault(2, "program a; var x: integer; begin x `: = 3 end.");
        b.fault(1, "program a; begin write(1 `/ 2) end.");
        b.fault(1, "program a; begin write(`\"a\") end.");
        b.fault(2, "program a; begin write(1 < `> 2) end.");
    }
}
