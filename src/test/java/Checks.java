import java.nio.charset.StandardCharsets;

/** What the tests share: feeding texts, fetching plain forms, and counting answers that are not due. */
final class Checks {
    private static int wrong = 0;
    private static int made = 0;
    /** The sentence of the document that is tested now, as every wrong answer names it. */
    private static String sentence = "";

    private Checks() {
    }

    static void same(String what, long got, long due) {
        made++;
        if (got != due) {
            wrong++;
            System.out.println(sentence + what + " answered " + got + ", due is " + due);
        }
    }

    /** Runs the test of one sentence; one that checks nothing or throws has failed. */
    static void test(String name, Runnable body) {
        int madeBefore = made;
        int wrongBefore = wrong;
        sentence = name + ": ";
        try {
            body.run();
        } catch (RuntimeException e) {
            wrong++;
            System.out.println(sentence + "it ended with " + e);
        }
        sentence = "";
        if (made == madeBefore) {
            wrong++;
        }
        System.out.println((wrong == wrongBefore ? "  holds: " : "  BROKEN: ") + name);
    }

    static void same(String what, String got, String due) {
        made++;
        if (!got.equals(due)) {
            wrong++;
            System.out.println(sentence + what + "\n  answered " + got + "\n  due is   " + due);
        }
    }

    static void holds(String what, boolean holds) {
        same(what, holds ? 1 : 0, 1);
    }

    /** Runs a call that must throw just this class of exception. */
    static void fails(String what, Class<? extends RuntimeException> due, Runnable call) {
        String got = "nothing";
        try {
            call.run();
        } catch (RuntimeException e) {
            got = e.getClass().getName();
        }
        same(what + " throws", got, due.getName());
    }

    /** Runs a call that must throw nothing. */
    static void passes(String what, Runnable call) {
        String got = "nothing";
        try {
            call.run();
        } catch (RuntimeException e) {
            got = e.getClass().getName();
        }
        same(what + " throws", got, "nothing");
    }

    static void feed(QueryReader reader, String text) {
        feed(reader, text.getBytes(StandardCharsets.ISO_8859_1));
    }

    /** Puts these bytes behind what stands on the tape, whose length must be told. */
    static void feedBehind(QueryReader reader, int there, String text) {
        byte[] bytes = text.getBytes(StandardCharsets.ISO_8859_1);
        feedRows(reader, bytes);
        reader.end(there + bytes.length);
    }

    static void feed(QueryReader reader, byte[] bytes) {
        feedRows(reader, bytes);
        reader.end(bytes.length);
    }

    /** Puts a text behind what stands on the tape, with as many blanks as its last twenty bytes want. */
    static void feedWithBlanks(QueryReader reader, String text) {
        String blanks = " ".repeat((20 - text.length() % 20) % 20);
        feedRows(reader, (text + blanks).getBytes(StandardCharsets.ISO_8859_1));
    }

    private static void feedRows(QueryReader reader, byte[] bytes) {
        for (int i = 0; i < bytes.length; i += 20) {
            reader.feed(four(bytes, i), four(bytes, i + 4), four(bytes, i + 8), four(bytes, i + 12), four(bytes, i + 16));
        }
    }

    private static int four(byte[] bytes, int from) {
        int value = 0;
        for (int i = from; i < from + 4; i++) {
            value = value << 8 | (i < bytes.length ? bytes[i] & 255 : 0);
        }
        return value;
    }

    static int read(QueryReader reader, String text) {
        feed(reader, text);
        return reader.read();
    }

    /** A text in which a ^ may stand before the token (or the end) at fault, without it. */
    static String unmarked(String marked) {
        int place = marked.indexOf('^');
        return place < 0 ? marked : marked.substring(0, place) + marked.substring(place + 1);
    }

    /** What reading the unmarked text must answer. */
    static int dueOf(String marked) {
        return marked.indexOf('^') + 1;
    }

    static String plain(QueryReader reader) {
        StringBuilder form = new StringBuilder();
        int length = reader.length();
        for (int i = 0; i < length; i++) {
            form.append((char) reader.letter(i));
        }
        return form.toString();
    }

    static int folded(String text) {
        int sum = 0;
        for (int i = 0; i < text.length(); i++) {
            sum = 31 * sum + text.charAt(i);
        }
        return sum;
    }

    static void finish(String test) {
        System.out.println(test + ": " + made + " checks, " + wrong + " wrong");
        if (wrong > 0 || made == 0) {
            System.exit(1);
        }
    }
}
