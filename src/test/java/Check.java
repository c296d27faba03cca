import java.util.function.BooleanSupplier;
import java.util.function.IntSupplier;

/** Counts the answers that are not as due, and feeds texts. */
final class Check {
    private int asked = 0;
    private int wrong = 0;

    /** Feeds a text of any length, eight signs to a long; the answer of the last feed. */
    static int say(EatKnown x, String text) {
        int signs = x.feed(0, 0, 0);
        for (int at = 0; at < text.length(); at += 24) {
            signs = x.feed(eight(text, at), eight(text, at + 8), eight(text, at + 16));
        }
        return signs;
    }

    private static long eight(String text, int from) {
        long bytes = 0;
        for (int i = from; i < from + 8; i++) {
            bytes = bytes << 8 | (i < text.length() ? text.charAt(i) & 255 : 0);
        }
        return bytes;
    }

    static int library(EatKnown x, String text) {
        say(x, text);
        return x.library();
    }

    static int history(EatKnown x, String text) {
        say(x, text);
        return x.history();
    }

    /** A new object with this LIBRARY. */
    static EatKnown of(String text) {
        EatKnown x = new EatKnown();
        int fault = library(x, text);
        if (fault != 0) {
            throw new IllegalArgumentException("fault " + fault + " in " + text);
        }
        return x;
    }

    void same(String what, long got, long due) {
        asked++;
        if (got != due) {
            wrong++;
            System.out.println(what + " answered " + got + ", due is " + due);
        }
    }

    void same(String what, boolean got, boolean due) {
        same(what, got ? 1 : 0, due ? 1 : 0);
    }

    /** A LIBRARY that is read on a new object: 0, or kind + 16 * place. */
    void fault(String text, int kind, int place) {
        EatKnown x = new EatKnown();
        same("library: " + text, library(x, text), kind + 16 * place);
    }

    /** The same, the place being that of the last time that a part of the text stands in it. */
    void fault(String text, int kind, String at) {
        fault(text, kind, text.lastIndexOf(at));
    }

    /** The same, so many signs behind that part. */
    void fault(String text, int kind, String at, int behind) {
        fault(text, kind, text.lastIndexOf(at) + behind);
    }

    /** person(..) throws NoSuchElementException. */
    void nobody(EatKnown x, int person, int what) {
        asked++;
        try {
            int got = x.person(person, what);
            wrong++;
            System.out.println("person(" + person + ", " + what + ") answered " + got + ", due is an exception");
        } catch (java.util.NoSuchElementException e) {
            return;
        }
    }

    /** All that can be told of an object without changing it, but for what can be undone and what the MARKS hold. */
    static String all(EatKnown x) {
        StringBuilder s = new StringBuilder();
        for (int what = 0; what <= 12; what++) {
            s.append(x.count(what)).append(' ');
        }
        for (int i = 0; i < 12; i++) {
            for (int what = 0; what <= 4; what++) {
                s.append(x.fact(i, what)).append(' ').append(x.page(i, what)).append(' ').append(x.task(i, what)).append(' ');
            }
        }
        for (int i = 0; i < x.count(2); i++) {
            for (int what = 0; what <= 8; what++) {
                s.append(x.person(i, what)).append(' ');
            }
            s.append(x.unlearn(i)).append(' ');
        }
        for (int what = 0; what <= 3; what++) {
            s.append(x.judged(what)).append(' ').append(x.guessed(200, what)).append(' ').append(x.lies(what)).append(' ');
        }
        return s.append(x.lost()).append(' ').append(x.evenings()).append(' ').append(x.safe(1)).append(' ')
            .append(x.hands(1, 0)).append(' ').append(x.years(7, 9, 0)).toString();
    }

    /** The answer of a call behind which all is as it was ahead of it. */
    void stays(String what, EatKnown x, IntSupplier call, int due) {
        String ahead = all(x);
        same(what, call.getAsInt(), due);
        asked++;
        if (!ahead.equals(all(x))) {
            wrong++;
            System.out.println(what + " changed something");
        }
    }

    /** The same of a call that answers true or false. */
    void stays(String what, EatKnown x, BooleanSupplier call, boolean due) {
        stays(what, x, (IntSupplier) () -> call.getAsBoolean() ? 1 : 0, due ? 1 : 0);
    }

    /** Tells the count, and ends the run with exit code 1 if an answer was wrong. */
    void end() {
        System.out.println(asked + " answers asked, " + wrong + " wrong");
        if (wrong != 0 || asked == 0) {
            System.exit(1);
        }
    }
}
