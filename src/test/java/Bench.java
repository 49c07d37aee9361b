import java.nio.charset.StandardCharsets;

/** What the tests share: texts with a mark (`) at the place that is due, and answers that are compared. */
final class Bench {
    private final String test;
    private int wrong;
    private int checks;

    Bench(String test) {
        this.test = test;
    }

    /** Feeds a text, bytes 0 to 255, to the tape. */
    static void feed(SchemaPascal x, String text) {
        byte[] bytes = text.getBytes(StandardCharsets.ISO_8859_1);
        int had = x.told(11);
        for (int i = 0; i < bytes.length; i += 20) {
            int[] words = new int[5];
            for (int j = 0; j < 20 && i + j < bytes.length; j++) {
                words[j / 4] |= (bytes[i + j] & 255) << 24 - 8 * (j % 4);
            }
            x.feed(words[0], words[1], words[2], words[3], words[4]);
        }
        x.end(had + bytes.length);
    }

    static String plain(String marked) {
        return marked.replace("`", "");
    }

    /** The place that is due: of the word behind the mark. */
    private static int place(String marked) {
        int at = marked.indexOf('`');
        while (at + 1 < marked.length() && marked.charAt(at + 1) == ' ') {
            at++;
            marked = marked.substring(0, at) + "`" + marked.substring(at + 1);
        }
        return at;
    }

    /** The end of a text, enough to know it by. */
    private static String brief(String text) {
        return text.length() < 150 ? text : ".." + text.substring(text.length() - 150);
    }

    /** An object with a program that has no fault. */
    SchemaPascal compiled(String text) {
        SchemaPascal x = new SchemaPascal();
        feed(x, text);
        due(text + " | compile", x.compile(), 0);
        due(text + " | fault", x.fault(), 0);
        return x;
    }

    /** An object whose program ran to its end, with these numbers of input. */
    SchemaPascal ran(String text, int... input) {
        SchemaPascal x = compiled(text);
        if (x.fault() != 0) {
            return x;
        }
        for (int v : input) {
            x.input(v);
        }
        x.start();
        for (int i = 0; i < 20 && x.told(0) == 1; i++) {
            x.step(20000);
        }
        return x;
    }

    static String written(SchemaPascal x) {
        StringBuilder b = new StringBuilder();
        for (int i = 0; i < x.told(8) && i < 20000; i++) {
            b.append((char) x.out(i));
        }
        return b.toString();
    }

    /** The text has this fault at its mark. */
    void fault(int code, String marked) {
        SchemaPascal x = new SchemaPascal();
        feed(x, plain(marked));
        int answer = x.compile();
        due(marked + " | fault", x.fault(), code);
        due(marked + " | place", -1 - answer, place(marked));
    }

    /** The text has no fault. */
    void good(String text) {
        compiled(text);
    }

    /** The program writes this and ends well. */
    void writes(String text, String due, int... input) {
        SchemaPascal x = ran(text, input);
        due(text + " | error", x.told(2), 0);
        due(text + " | place", x.told(3), -1);
        due(text + " | out", written(x), due);
    }

    /** The program writes this and then has this error at the text's mark; answers the object. */
    SchemaPascal error(int number, String marked, String due, int... input) {
        SchemaPascal x = ran(plain(marked), input);
        due(marked + " | error", x.told(2), number);
        due(marked + " | place", x.told(3), place(marked));
        due(marked + " | out", written(x), due);
        due(marked + " | begun", x.told(0), 0);
        return x;
    }

    void due(String what, long got, long want) {
        checks++;
        if (got != want) {
            wrong++;
            System.out.println(test + ": " + brief(what) + " answered " + got + ", due is " + want);
        }
    }

    void due(String what, String got, String want) {
        checks++;
        if (!got.equals(want)) {
            wrong++;
            System.out.println(test + ": " + brief(what) + " answered [" + got + "], due is [" + want + "]");
        }
    }

    /** The call throws just this. */
    void thrown(String what, Class<? extends RuntimeException> due, Runnable call) {
        String got = "nothing";
        try {
            call.run();
        } catch (RuntimeException e) {
            got = e.getClass().getSimpleName();
        }
        due(what + " throws", got, due.getSimpleName());
    }

    void close() {
        System.out.println(test + ": " + checks + " checks, " + wrong + " wrong");
        if (wrong != 0) {
            System.exit(1);
        }
    }
}
