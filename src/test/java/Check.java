import java.util.NoSuchElementException;

/** Counts and prints the answers that are not the ones that are due. */
final class Check {
    private static int wrong;

    private Check() {
    }

    static void same(String what, long got, long due) {
        if (got != due) {
            wrong++;
            System.out.println(what + " answered " + got + ", due is " + due);
        }
    }

    static void same(String what, boolean got, boolean due) {
        same(what, got ? 1 : 0, due ? 1 : 0);
    }

    static void same(String what, String got, String due) {
        if (!got.equals(due)) {
            wrong++;
            System.out.println(what + " shows " + got + ", due is " + due);
        }
    }

    static void missing(String what, Runnable call) {
        throwsKind(what, NoSuchElementException.class, call);
    }

    static void illegal(String what, Runnable call) {
        throwsKind(what, IllegalArgumentException.class, call);
    }

    private static void throwsKind(String what, Class<?> kind, Runnable call) {
        Class<?> got = null;
        try {
            call.run();
        } catch (RuntimeException e) {
            got = e.getClass();
        }
        if (got != kind) {
            wrong++;
            System.out.println(what + " threw " + got + ", due is " + kind);
        }
    }

    /** Puts a text on the tape of this object, and reads a town from it. */
    static int tell(DuskTown x, String text) {
        feedText(x, text);
        return x.town(text.length());
    }

    static void feedText(DuskTown x, String text) {
        for (int at = 0; at < text.length(); at += 20) {
            x.feed(word(text, at), word(text, at + 4), word(text, at + 8), word(text, at + 12), word(text, at + 16));
        }
    }

    private static int word(String text, int at) {
        int word = 0;
        for (int i = at; i < at + 4; i++) {
            word = word << 8 | (i < text.length() ? text.charAt(i) & 255 : 32);
        }
        return word;
    }

    static DuskTown town(String text) {
        DuskTown x = new DuskTown();
        same("town of \"" + text + "\"", tell(x, text), 0);
        return x;
    }

    /** Ends the test, with exit code 1 if an answer was wrong. */
    static void end(String test) {
        System.out.println(test + ": " + (wrong == 0 ? "all answers are as due" : wrong + " answers are not as due"));
        if (wrong != 0) {
            System.exit(1);
        }
    }
}
