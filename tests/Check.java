/** What the tests share: comparing answers, expecting exceptions, and giving texts to a feeder. */
final class Check {
    private static int wrong = 0;
    private static int made = 0;

    private Check() {
    }

    /** A call that should throw. */
    interface Call {
        void make();
    }

    static void same(String what, long got, long want) {
        made++;
        if (got != want) {
            wrong++;
            System.out.println(what + ": answered " + got + ", due is " + want);
        }
    }

    static void same(String what, boolean got, boolean want) {
        same(what, got ? 1 : 0, want ? 1 : 0);
    }

    static void sameDouble(String what, double got, double want) {
        made++;
        if (got != want) {
            wrong++;
            System.out.println(what + ": answered " + got + ", due is " + want);
        }
    }

    static void throwsArgument(String what, Call call) {
        throwsExactly(what, IllegalArgumentException.class, call);
    }

    static void throwsState(String what, Call call) {
        throwsExactly(what, IllegalStateException.class, call);
    }

    static void throwsIndex(String what, Call call) {
        throwsExactly(what, IndexOutOfBoundsException.class, call);
    }

    private static void throwsExactly(String what, Class<?> want, Call call) {
        made++;
        Class<?> got = null;
        try {
            call.make();
        } catch (RuntimeException e) {
            got = e.getClass();
        }
        if (got != want) {
            wrong++;
            System.out.println(what + ": threw " + got + ", due is " + want);
        }
    }

    /** The test of one sentence of the document; what it finds wrong is told with the sentence. */
    static void about(String sentence, Runnable test) {
        int wrongBefore = wrong;
        int madeBefore = made;
        try {
            test.run();
        } catch (RuntimeException e) {
            wrong++;
            System.out.println("the test stopped: " + e);
        }
        if (made == madeBefore) {
            wrong++;
            System.out.println("nothing was tested");
        }
        if (wrong > wrongBefore) {
            System.out.println("-- this was about: " + sentence);
        }
    }

    /** A call that should throw, and leave everything as it is. */
    static void refusesArgument(String what, PageFeeder x, Call call) {
        refuses(what, x, IllegalArgumentException.class, call);
    }

    static void refusesState(String what, PageFeeder x, Call call) {
        refuses(what, x, IllegalStateException.class, call);
    }

    static void refusesIndex(String what, PageFeeder x, Call call) {
        refuses(what, x, IndexOutOfBoundsException.class, call);
    }

    private static void refuses(String what, PageFeeder x, Class<?> want, Call call) {
        String before = all(x);
        throwsExactly(what, want, call);
        sameText("everything behind " + what, all(x), before);
    }

    /** Numbers next to a range and far from it are refused; the ends of the range are not. */
    static void range(String what, PageFeeder x, int least, int greatest, Question question) {
        for (int value : new int[] {Integer.MIN_VALUE, least - 1, greatest + 1, Integer.MAX_VALUE}) {
            refusesArgument(what + "(" + value + ")", x, () -> question.ask(value));
        }
        question.ask(least);
        question.ask(greatest);
    }

    /** The answers to a question for 0, 1, 2 and so on. */
    static void answers(String what, Question question, int... want) {
        for (int k = 0; k < want.length; k++) {
            same(what + "(" + k + ")", question.ask(k), want[k]);
        }
    }

    /** What parse answers to an error. */
    static int error(int offset, int kind) {
        return -2 - (8 * offset + kind);
    }

    static void errorIn(String text, int offset, int kind) {
        same("parse of " + text, parse(new PageFeeder(), text), error(offset, kind));
    }

    static void sheetsIn(String text, int sheets) {
        same("parse of " + text, parse(new PageFeeder(), text), sheets);
    }

    /** Appends the text, filled up with spaces to a multiple of twenty bytes. */
    static int append(PageFeeder x, String text) {
        int length = 0;
        for (int at = 0; at < text.length(); at += 20) {
            int[] words = new int[5];
            for (int k = 0; k < 20; k++) {
                int sign = at + k < text.length() ? text.charAt(at + k) & 255 : 32;
                words[k / 4] = words[k / 4] << 8 | sign;
            }
            length = x.append(words[0], words[1], words[2], words[3], words[4]);
        }
        return length;
    }

    static int parse(PageFeeder x, String text) {
        append(x, text);
        return x.parse(text.length());
    }

    /** A feeder of this text, which must be without errors. */
    static PageFeeder feeder(String text) {
        PageFeeder x = new PageFeeder();
        int answer = parse(x, text);
        if (answer < 0) {
            same("parse of " + text, answer, 0);
        }
        return x;
    }

    /** Every answer that tells something of the state, as one text. */
    static String all(PageFeeder x) {
        StringBuilder b = new StringBuilder();
        row(b, "size", 12, x::size);
        row(b, "limit", 4, x::limit);
        row(b, "account", 9, x::account);
        row(b, "sheetsAt", 7, x::sheetsAt);
        row(b, "next", 5, x::next);
        row(b, "stack", 41, x::stack);
        row(b, "path", 41, x::path);
        for (int s = 0; s < x.size(0); s++) {
            int sheet = s;
            row(b, "sheet" + s, 8, what -> x.sheet(sheet, what));
            b.append(x.isHalf(s));
        }
        for (int p = 0; p < x.size(4); p++) {
            int page = p;
            row(b, "page" + p, 3, what -> x.page(page, what));
        }
        for (int j = 0; j < x.size(5); j++) {
            int job = j;
            row(b, "job" + j, 4, what -> x.job(job, what));
        }
        return b.append(x.meanInk()).toString();
    }

    /** The same without the number of changes that can be undone. */
    static String allButUndo(PageFeeder x) {
        return all(x).replaceFirst("(size( -?\\d+){11}) \\d+", "$1");
    }

    /** A question that takes one number. */
    interface Question {
        int ask(int what);
    }

    private static void row(StringBuilder b, String name, int count, Question question) {
        b.append('\n').append(name);
        for (int what = 0; what < count; what++) {
            b.append(' ').append(question.ask(what));
        }
    }

    static void sameText(String what, String got, String want) {
        made++;
        if (!got.equals(want)) {
            wrong++;
            System.out.println(what + ": answered\n" + got + "\ndue is\n" + want);
        }
    }

    static boolean hasFailed() {
        return wrong > 0;
    }

    static void finish() {
        System.out.println(wrong == 0 ? made + " answers are as due" : wrong + " of " + made + " answers are not as due");
        if (wrong != 0) {
            System.exit(1);
        }
    }
}
