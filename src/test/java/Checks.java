import java.util.function.Supplier;
import java.util.function.ToIntFunction;

/**
 * What the tests share. They extend it, since nothing can be imported from a class without a package.
 * The constants are written out here, so that a wrong one in the class is seen.
 */
abstract class Checks {
    static final int NO_SUCH = -1, BAD_VALUE = -2, BAD_TEXT = -3, TOO_MANY = -4, NOT_POSSIBLE = -5, NONE = -6;
    static final int YEAS = 0, ROOM = 1, MEMORY = 2;
    static final int LEAST = Integer.MIN_VALUE, GREATEST = Integer.MAX_VALUE;

    private static int wrong = 0;
    private static int cases = 0;

    // ---- one boundary case, a test of its own on objects of its own

    /** A call, or a few of which the last one counts, has to answer so. */
    static void answers(String sentence, Supplier<RepealedLaws> start, ToIntFunction<RepealedLaws> calls, int want) {
        cases++;
        due(sentence, calls.applyAsInt(start.get()), want);
    }

    /** A call has to return an error and to change nothing. */
    static void refuses(String sentence, Supplier<RepealedLaws> start, ToIntFunction<RepealedLaws> call, int error) {
        answersOnly(sentence, start, call, error);
    }

    /** A call has to answer so and to change nothing, not even the history. */
    static void answersOnly(String sentence, Supplier<RepealedLaws> start, ToIntFunction<RepealedLaws> call, int want) {
        cases++;
        RepealedLaws x = start.get();
        due(sentence, call.applyAsInt(x), want);
        due(sentence + ", nothing changes", everything(x), everything(start.get()));
    }

    /** A call has to be one change that undo() takes back. */
    static void isChange(String sentence, Supplier<RepealedLaws> start, ToIntFunction<RepealedLaws> call) {
        cases++;
        RepealedLaws x = start.get();
        String before = seen(x);
        int kept = x.count(13);
        due(sentence + ", no error", call.applyAsInt(x) >= 0 ? 1 : 0, 1);
        due(sentence + ", one state more", x.count(13), Math.min(kept + 1, 6));
        due(sentence + ", undone", x.undo(), Math.min(kept, 5));
        due(sentence + ", as before", seen(x), before);
    }

    static void due(String what, long got, long want) {
        if (got != want) {
            wrong++;
            System.out.println(what + ": answered " + got + ", due is " + want);
        }
    }

    static void due(String what, String got, String want) {
        if (!got.equals(want)) {
            wrong++;
            System.out.println(what + ":\n  is     " + got + "\n  due is " + want);
        }
    }

    static void end() {
        String ran = cases == 0 ? "" : ", " + cases + " cases";
        System.out.println(wrong == 0 ? "all answers are as due" + ran : wrong + " answers are not as due" + ran);
        if (wrong != 0) {
            System.exit(1);
        }
    }

    // ---- states from which the cases start

    static RepealedLaws fresh() {
        return new RepealedLaws();
    }

    /** Nothing as at first: settings, wishes, laws of all kinds, sessions, failed bills, pad, history, slots. */
    static RepealedLaws busy() {
        RepealedLaws x = new RepealedLaws();
        x.set(YEAS, 2);
        x.set(ROOM, 9);
        x.set(MEMORY, 7);
        x.wish(0, 0, 1);
        x.wish(3, 5, 2);
        x.wish(4, 2, 0);
        type(x, "30f50a!72d72d50a!");
        x.read();
        x.save(1);
        x.propose(5, 5, 2, 1);
        x.repeal(2);
        x.save(0);
        type(x, "15d2");
        return x;
    }

    /** The law 0 is in force: 3 words that forbid the topic 0. */
    static RepealedLaws oneLaw() {
        RepealedLaws x = new RepealedLaws();
        x.propose(3, 0, 0, NONE);
        return x;
    }

    /** Laws 0 to 8 of 1 to 9 words, all in force: three of each stance, all in the topic 0. */
    static RepealedLaws nineLaws() {
        RepealedLaws x = new RepealedLaws();
        type(x, "10f20a30d40f50a60d70f80a90d");
        x.read();
        return x;
    }

    /** So many laws of 1 word made in the session 0 (each repeals the one before), MEMORY is 0. */
    static RepealedLaws made(int laws) {
        RepealedLaws x = new RepealedLaws();
        makeLaws(x, laws);
        return x;
    }

    /** Makes them in an empty code, by five changes at most. */
    static void makeLaws(RepealedLaws x, int laws) {
        x.set(MEMORY, 0);
        for (int left = laws; left > 0; left -= 20) {
            type(x, "10f10a".repeat(10).substring(0, 3 * Math.min(left, 20)));
            x.read();
        }
    }

    static RepealedLaws eighty() {
        return made(80);
    }

    /** Laws 70 to 78 of 1 to 9 words in force, three of each stance, all in the topic 0, behind 70 repealed ones. */
    static RepealedLaws lateLaws() {
        RepealedLaws x = made(71);
        type(x, "20f30f40a50a60a70d80d90d");
        x.read();
        return x;
    }

    /** The law 0 is in force (3 words that forbid the topic 0), 300 sessions ended and 300 bills failed since. */
    static RepealedLaws longAgo() {
        RepealedLaws x = oneLaw();
        for (int i = 0; i < 20; i++) {
            type(x, "30f!".repeat(15));
            x.read();
        }
        return x;
    }

    /** 80 laws, and no bill would pass: the law in force is wished by all, all five have to vote for a bill. */
    static RepealedLaws eightyAndNoBill() {
        RepealedLaws x = made(80);
        x.set(YEAS, 5);
        x.set(ROOM, 1);
        for (int councillor = 0; councillor < 5; councillor++) {
            x.wish(councillor, 0, 1);
        }
        return x;
    }

    /** 60 characters on the pad, twenty bills. */
    static RepealedLaws fullPad() {
        RepealedLaws x = new RepealedLaws();
        type(x, "10f10a".repeat(10));
        return x;
    }

    static void type(RepealedLaws x, String text) {
        for (int from = 0; from < text.length(); from += 8) {
            x.put(characters(text.substring(from, Math.min(from + 8, text.length()))));
        }
    }

    static long characters(String text) {
        long number = 0;
        for (int i = 0; i < text.length(); i++) {
            number = number << 8 | text.charAt(i);
        }
        return number;
    }

    /** Reads a bill that fails when a law of 3 words that forbids the topic 0 is in force. */
    static int readsAFailure(RepealedLaws x) {
        x.wipe();
        type(x, "30f");
        return x.read();
    }

    // ---- what can be seen of an object, in so few calls that it stays below 512

    /** All but the pad, the history and the slots; of many laws the last six. */
    static String seen(RepealedLaws x) {
        StringBuilder text = new StringBuilder("counts");
        for (int what = 0; what < 12; what++) {
            text.append(' ').append(x.count(what));
        }
        text.append(" wishes ");
        for (int councillor = 0; councillor < 5; councillor++) {
            for (int topic = 0; topic < 6; topic++) {
                text.append(x.councillor(councillor, topic));
            }
        }
        for (int law = Math.max(0, x.count(4) - 6); law < x.count(4); law++) {
            text.append(" law");
            for (int what = 0; what < 7; what++) {
                text.append(' ').append(x.law(law, what));
            }
        }
        return text.toString();
    }

    /** All that there is, with the history, the pad and the slots; the object is used up. */
    private static String everything(RepealedLaws x) {
        StringBuilder text = new StringBuilder(seen(x));
        text.append(" pad ").append(x.count(12)).append(" fault ").append(x.fault());
        text.append(" history ").append(x.count(13));
        for (int i = 0; i < 7; i++) {
            text.append(" undo ").append(x.undo());
            for (int what = 0; what < 6; what++) {
                text.append(' ').append(x.count(what));
            }
        }
        x.set(YEAS, 1);
        x.put(characters("4a"));
        text.append(" read ").append(x.read()).append(' ').append(seen(x));
        for (int slot = 0; slot < 2; slot++) {
            text.append(" slot ").append(x.restore(slot)).append(' ').append(seen(x));
        }
        return text.toString();
    }
}
