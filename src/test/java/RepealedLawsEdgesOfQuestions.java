/** The boundary cases of the promises 8 to 16 (what there is, and what if), each a test of its own. */
public final class RepealedLawsEdgesOfQuestions extends Checks {
    public static void main(String[] args) {
        lawErrors();
        lawNones();
        lawContradictsAndHolds();
        topicErrors();
        topicEmptyAndFull();
        councillorErrors();
        councillorNoneAndAll();
        countErrors();
        countNoneAndMost();
        countOfRepealed();
        lateNumbers();
        greatNumbers();
        why();
        votesErrors();
        votesNoneAndAll();
        bestRepeal();
        longestBillErrors();
        longestBill();
        bestBill();
        bestBillOfSeveral();
        end();
    }

    // ---- 8: law

    private static void lawErrors() {
        for (int law : new int[] {LEAST, NONE, -1, 4, 79, 80, GREATEST}) {
            refuses("8 no such law: " + law, Checks::busy, x -> x.law(law, 0), NO_SUCH);
        }
        refuses("8 no such law: 0 in an empty code", Checks::fresh, x -> x.law(0, 0), NO_SUCH);
        refuses("8 no such law: 80 of 80", Checks::eighty, x -> x.law(80, 0), NO_SUCH);
        answersOnly("8 the last law of 80", Checks::eighty, x -> x.law(79, 5), 78);
        refuses("8 no such law: it was undone", () -> {
            RepealedLaws x = oneLaw();
            x.undo();
            return x;
        }, x -> x.law(0, 0), NO_SUCH);
        for (int what : new int[] {LEAST, NONE, -1, 9, 10, GREATEST}) {
            refuses("8 what is out of range: " + what, Checks::busy, x -> x.law(0, what), BAD_VALUE);
        }
        refuses("8 law before what", Checks::busy, x -> x.law(4, 9), NO_SUCH);
        int[] due = {5, 0, 1, 0, 2, NONE, 3, 0, 0};
        for (int i = 0; i < due.length; i++) {
            int what = i;
            answersOnly("8 what " + what, Checks::busy, x -> x.law(1, what), due[what]);
        }
    }

    private static void lawNones() {
        answers("8 the session in which it was made: 0", Checks::oneLaw, x -> x.law(0, 3), 0);
        answers("8 the session in which it was repealed: NONE in force", Checks::oneLaw, x -> x.law(0, 4), NONE);
        answers("8 the session in which it was repealed: 0", Checks::oneLaw, x -> {
            x.propose(3, 1, 0, 0);
            return x.law(0, 4);
        }, 0);
        answers("8 the session in which it was repealed: not the one of now", Checks::oneLaw, x -> {
            x.endSession();
            x.repeal(0);
            x.endSession();
            return x.law(0, 4);
        }, 1);
        answers("8 the law that it repealed: NONE", Checks::oneLaw, x -> x.law(0, 5), NONE);
        answers("8 the law that it repealed: 0", Checks::oneLaw, x -> {
            x.propose(3, 1, 0, 0);
            return x.law(1, 5);
        }, 0);
        answers("8 the law that it repealed, once repealed itself", Checks::oneLaw, x -> {
            x.propose(3, 1, 0, 0);
            x.repeal(1);
            return x.law(1, 5);
        }, 0);
        answers("8 the law by which it was repealed: NONE in force", Checks::oneLaw, x -> x.law(0, 6), NONE);
        answers("8 the law by which it was repealed: NONE by decree", Checks::busy, x -> x.law(2, 6), NONE);
        answers("8 the law by which it was repealed: a bill", Checks::busy, x -> x.law(1, 6), 3);
        answers("8 the law by which it was repealed, once repealed itself", Checks::busy, x -> {
            x.repeal(3);
            return x.law(1, 6);
        }, 3);
    }

    private static void lawContradictsAndHolds() {
        answers("8 contradicts none: it is alone", Checks::oneLaw, x -> x.law(0, 7), 0);
        answers("8 contradicts none: it was repealed", Checks::nineLaws, x -> {
            x.repeal(4);
            return x.law(4, 7);
        }, 0);
        answers("8 contradicts none that was repealed", Checks::nineLaws, x -> {
            x.repeal(4);
            return x.law(0, 7);
        }, 5);
        answers("8 contradicts: six of nine", Checks::nineLaws, x -> x.law(8, 7), 6);
        answers("8 contradicts: all the eight others", Checks::fresh, x -> {
            type(x, "10f20a30d40a50d60a70d80a90d");
            x.read();
            return x.law(0, 7);
        }, 8);
        answers("8 holds by it: 1", Checks::oneLaw, x -> x.law(0, 8), 1);
        answers("8 holds by it: 0, it was repealed", Checks::oneLaw, x -> {
            x.repeal(0);
            return x.law(0, 8);
        }, 0);
        answers("8 holds by it: 0, by a longer one", Checks::oneLaw, x -> {
            x.propose(4, 0, 1, NONE);
            return x.law(0, 8);
        }, 0);
        answers("8 holds by it: 0, by a longer one of the same stance", Checks::oneLaw, x -> {
            x.propose(4, 0, 0, NONE);
            return x.law(0, 8);
        }, 0);
        answers("8 holds by it: 1, the longer one is of another topic", Checks::oneLaw, x -> {
            x.propose(4, 1, 0, NONE);
            return x.law(0, 8);
        }, 1);
        answers("8 holds by it: 1 again, when the longer one is repealed", Checks::oneLaw, x -> {
            x.propose(4, 0, 1, NONE);
            x.repeal(1);
            return x.law(0, 8);
        }, 1);
    }

    // ---- 9: topic

    private static void topicErrors() {
        for (int topic : new int[] {LEAST, NONE, -1, 6, GREATEST}) {
            refuses("9 no such topic: " + topic, Checks::busy, x -> x.topic(topic, 0), NO_SUCH);
        }
        for (int what : new int[] {LEAST, NONE, -1, 5, 6, GREATEST}) {
            refuses("9 what is out of range: " + what, Checks::busy, x -> x.topic(0, what), BAD_VALUE);
        }
        refuses("9 topic before what", Checks::busy, x -> x.topic(6, 5), NO_SUCH);
        int[] due = {1, 2, 3, 0, 1};
        for (int i = 0; i < due.length; i++) {
            int what = i;
            answersOnly("9 what " + what + " of the last topic", Checks::busy, x -> x.topic(5, what), due[what]);
        }
    }

    private static void topicEmptyAndFull() {
        int[] empty = {0, NONE, NONE, 0, 0};
        int[] full = {9, 2, 8, 27, 0};
        for (int i = 0; i < 5; i++) {
            int what = i;
            answersOnly("9 an empty code: what " + what, Checks::fresh, x -> x.topic(0, what), empty[what]);
            answersOnly("9 an empty topic: what " + what, Checks::nineLaws, x -> x.topic(1, what), empty[what]);
            answersOnly("9 nine laws: what " + what, Checks::nineLaws, x -> x.topic(0, what), full[what]);
            answers("9 all were repealed: what " + what, Checks::oneLaw, x -> {
                x.repeal(0);
                return x.topic(0, what);
            }, empty[what]);
        }
        answers("9 laws in force, not those that were repealed", Checks::eighty, x -> x.topic(0, 0), 1);
        answers("9 what holds: 0, which is not NONE", Checks::oneLaw, x -> x.topic(0, 1), 0);
        answers("9 the law by which that holds: 0, which is not NONE", Checks::oneLaw, x -> x.topic(0, 2), 0);
        answers("9 pairs: each once", Checks::oneLaw, x -> {
            x.propose(4, 0, 1, NONE);
            return x.topic(0, 3);
        }, 1);
        answers("9 pairs: not of laws with the same stance", Checks::oneLaw, x -> {
            x.propose(4, 0, 0, NONE);
            return x.topic(0, 3);
        }, 0);
        answers("9 pairs: not with a law of another topic", Checks::oneLaw, x -> {
            x.propose(4, 1, 1, NONE);
            return x.topic(0, 3) + x.topic(1, 3);
        }, 0);
        answers("9 councillors whose wish is what holds: all", Checks::oneLaw, x -> content(x, 0), 5);
        answers("9 councillors whose wish is what holds: none", Checks::oneLaw, x -> content(x, 1), 0);
        answers("9 councillors whose wish is what holds: none without a wish", Checks::oneLaw, x -> x.topic(0, 4), 0);
        answers("9 councillors whose wish is what holds: nothing holds", Checks::fresh, x -> content(x, 0), 0);
    }

    /** How many councillors are content with the topic 0 when all have the same wish in it. */
    private static int content(RepealedLaws x, int wish) {
        for (int councillor = 0; councillor < 5; councillor++) {
            x.wish(councillor, 0, wish);
        }
        return x.topic(0, 4);
    }

    // ---- 10: councillor

    private static void councillorErrors() {
        for (int councillor : new int[] {LEAST, NONE, -1, 5, GREATEST}) {
            refuses("10 no such councillor: " + councillor, Checks::busy, x -> x.councillor(councillor, 0), NO_SUCH);
        }
        for (int what : new int[] {LEAST, NONE, -1, 8, GREATEST}) {
            refuses("10 what is out of range: " + what, Checks::busy, x -> x.councillor(0, what), BAD_VALUE);
        }
        refuses("10 councillor before what", Checks::busy, x -> x.councillor(5, 8), NO_SUCH);
        int[] first = {1, 3, 3, 3, 3, 3, 0, 0};
        int[] last = {3, 3, 0, 3, 3, 3, 0, 0};
        int[] third = {3, 3, 3, 3, 3, 2, 32, 1};
        for (int i = 0; i < 8; i++) {
            int what = i;
            answersOnly("10 the first councillor, " + what, Checks::busy, x -> x.councillor(0, what), first[what]);
            answersOnly("10 the last councillor, " + what, Checks::busy, x -> x.councillor(4, what), last[what]);
            answersOnly("10 councillor 3, " + what, Checks::busy, x -> x.councillor(3, what), third[what]);
        }
    }

    private static void councillorNoneAndAll() {
        answers("10 no topic: nothing holds", Checks::fresh, x -> asked(x, 0, 6), 0);
        answers("10 no topic: no wish", Checks::nineLaws, x -> x.councillor(0, 6), 0);
        answers("10 no topic: another stance holds", Checks::nineLaws, x -> asked(x, 0, 6), 0);
        answers("10 the topic 0: 1", Checks::nineLaws, x -> asked(x, 2, 6), 1);
        answers("10 the topic 5: 32", Checks::fresh, x -> {
            x.propose(1, 5, 0, NONE);
            return asked(x, 0, 6);
        }, 32);
        answers("10 all topics: 63", Checks::fresh, x -> {
            type(x, "10a21a32a43a54a65a");
            x.read();
            return asked(x, 1, 6);
        }, 63);
        answers("10 no law: an empty code", Checks::fresh, x -> asked(x, 0, 7), 0);
        answers("10 no law: no wish", Checks::nineLaws, x -> x.councillor(2, 7), 0);
        answers("10 no law: it was repealed", Checks::oneLaw, x -> {
            x.repeal(0);
            return asked(x, 0, 7);
        }, 0);
        answers("10 no law: it is of another topic", Checks::oneLaw, x -> {
            x.wish(0, 1, 0);
            return x.councillor(0, 7);
        }, 0);
        answers("10 laws by which nothing holds, too", Checks::nineLaws, x -> asked(x, 0, 7), 3);
        answers("10 all nine laws", Checks::fresh, x -> {
            type(x, "10a21a32a43a54a65a70a81a92a");
            x.read();
            return asked(x, 1, 7);
        }, 9);
    }

    /** What the councillor 0 is told who has the same wish in all topics. */
    private static int asked(RepealedLaws x, int wish, int what) {
        for (int topic = 0; topic < 6; topic++) {
            x.wish(0, topic, wish);
        }
        return x.councillor(0, what);
    }

    // ---- 11: count

    private static void countErrors() {
        for (int what : new int[] {LEAST, NONE, -1, 14, 15, GREATEST}) {
            refuses("11 what is out of range: " + what, Checks::busy, x -> x.count(what), BAD_VALUE);
        }
        int[] due = {2, 9, 7, 2, 4, 2, 2, 8, 0, 0, 2, 2, 4, 6};
        for (int i = 0; i < due.length; i++) {
            int what = i;
            answersOnly("11 what " + what, Checks::busy, x -> x.count(what), due[what]);
        }
    }

    private static void countNoneAndMost() {
        int[] nine = {3, 10, 2, 0, 9, 9, 0, 45, 27, 27, 1, 0, 0, 1};
        int[] most = {3, 10, 0, 0, 80, 1, 79, 1, 0, 0, 1, 0, 0, 5};
        for (int i = 0; i < nine.length; i++) {
            int what = i;
            answersOnly("11 nine laws, " + what, Checks::nineLaws, x -> x.count(what), nine[what]);
            answersOnly("11 eighty laws, " + what, Checks::eighty, x -> x.count(what), most[what]);
        }
        answers("11 topics in which something holds: all", Checks::fresh, x -> {
            type(x, "10a21a32a43a54a65a");
            x.read();
            return x.count(10);
        }, 6);
        answers("11 topics in which something holds: none left", Checks::oneLaw, x -> {
            x.repeal(0);
            return x.count(10);
        }, 0);
        answers("11 topics in which something holds: one by two laws", Checks::oneLaw, x -> {
            x.propose(4, 0, 0, NONE);
            return x.count(10);
        }, 1);
        answers("11 pairs: told by pairs and by topics alike", Checks::fresh, x -> {
            type(x, "10f21f30a41d50d61a75a85a95f");
            x.read();
            return 100 * x.count(8) + x.count(9);
        }, 808);
        answers("11 bills that failed: not in propose()", Checks::oneLaw, x -> {
            x.propose(3, 0, 0, NONE);
            return x.count(11);
        }, 0);
        answers("11 bills that failed: not in a text with a fault", Checks::oneLaw, x -> {
            type(x, "30f3");
            x.read();
            return x.count(11);
        }, 0);
        answers("11 bills that failed: twenty at once", Checks::fresh, x -> {
            x.set(YEAS, 5);
            type(x, "10f10a".repeat(10));
            x.read();
            return x.count(11);
        }, 20);
        answers("11 bills that failed: so far, in two reads", Checks::oneLaw, x -> {
            type(x, "30f");
            x.read();
            type(x, "30f30f");
            x.read();
            return x.count(11);
        }, 3);
        answers("11 the length of the pad: 60", Checks::fullPad, x -> x.count(12), 60);
        answers("11 how many changes can be undone: 6 of 7", Checks::fresh, x -> {
            for (int i = 0; i < 7; i++) {
                x.endSession();
            }
            return x.count(13);
        }, 6);
    }

    private static void countOfRepealed() {
        answers("11 repealed so far: by decree", Checks::oneLaw, x -> {
            x.repeal(0);
            return x.count(6);
        }, 1);
        answers("11 repealed so far: by a bill", Checks::oneLaw, x -> {
            x.propose(3, 1, 0, 0);
            return x.count(6);
        }, 1);
        answers("11 repealed so far: not undone", Checks::oneLaw, x -> {
            x.repeal(0);
            x.undo();
            return x.count(6);
        }, 0);
        answers("11 words: of none", Checks::oneLaw, x -> {
            x.repeal(0);
            return x.count(7);
        }, 0);
    }

    /** What is told of laws with great numbers: nothing wraps around at 32 or 64. */
    private static void lateNumbers() {
        int[] counts = {3, 10, 0, 0, 79, 9, 70, 45, 27, 27, 1, 0, 0, 6};
        for (int i = 0; i < counts.length; i++) {
            int what = i;
            answers("11 laws 70 to 78 in force: count " + i, Checks::lateLaws, x -> x.count(what), counts[what]);
        }
        int[] topic = {9, 2, 78, 27, 0};
        for (int i = 0; i < topic.length; i++) {
            int what = i;
            answers("9 laws 70 to 78 in force: topic " + i, Checks::lateLaws, x -> x.topic(0, what), topic[what]);
        }
        for (int length = 1; length <= 9; length++) {
            int words = length;
            answers("14 laws 70 to 78 in force: of length " + length, Checks::lateLaws, x -> x.bestRepeal(words, 5, 0),
                    69 + length);
            answers("8 laws 70 to 78 in force: contradicts, of length " + length, Checks::lateLaws,
                    x -> x.law(69 + words, 7), 6);
            answers("8 laws 70 to 78 in force: holds, of length " + length, Checks::lateLaws,
                    x -> x.law(69 + words, 8), words == 9 ? 1 : 0);
            answers("4 laws 70 to 78 in force: repealed, of length " + length, Checks::lateLaws, x -> {
                x.propose(words, 5, 2, 69 + words);
                return 1000 * x.law(79, 5) + 10 * x.law(69 + words, 6) + x.law(69 + words, 4);
            }, 1000 * (69 + length) + 790);
        }
        for (int law = 0; law < 70; law++) {
            int number = law;
            answers("8 the repealed law " + law + ", by which", Checks::lateLaws, x -> x.law(number, 6), law + 1);
            answers("12 the repealed law " + law + " is named", Checks::lateLaws, x -> x.why(1, 5, 2, number), 4);
            answers("5 the repealed law " + law + " is repealed", Checks::lateLaws, x -> x.repeal(number), NOT_POSSIBLE);
        }
    }

    /** Numbers above 255, as an object can reach them: nothing wraps around. */
    private static void greatNumbers() {
        answers("11 the session: 300", Checks::longAgo, x -> x.count(3), 300);
        answers("11 bills that failed: 300", Checks::longAgo, x -> x.count(11), 300);
        answers("5 for how many sessions: 300", Checks::longAgo, x -> x.repeal(0), 300);
        answers("8 the session in which it was repealed: 300", Checks::longAgo, x -> {
            x.repeal(0);
            return x.law(0, 4);
        }, 300);
        answers("8 the session in which it was made: 300", Checks::longAgo, x -> {
            x.propose(4, 0, 0, NONE);
            return x.law(1, 3);
        }, 300);
        answers("6 made in the session 300, not in the session 0", Checks::longAgo, x -> {
            x.propose(4, 0, 0, NONE);
            return x.endSession();
        }, 1);
        answers("12 repealed 2 sessions before the session 302", Checks::longAgo, x -> {
            x.repeal(0);
            x.endSession();
            x.endSession();
            return x.why(3, 0, 0, NONE);
        }, 0);
        answers("12 repealed 1 session before the session 301", Checks::longAgo, x -> {
            x.repeal(0);
            x.endSession();
            return x.why(3, 0, 0, NONE);
        }, 3);
        answers("20 the session 300 undone: one read()", Checks::longAgo, x -> {
            x.undo();
            return x.count(3);
        }, 285);
        answers("21 the session 300 saved and restored", Checks::longAgo, x -> {
            x.save(1);
            x.endSession();
            x.restore(1);
            return x.count(3);
        }, 300);
    }

    // ---- 12: why

    private static void why() {
        answersOnly("12 it passes: 0", Checks::fresh, x -> x.why(1, 0, 0, NONE), 0);
        for (int topic : new int[] {LEAST, -1, 6, GREATEST}) {
            refuses("12 no such topic: " + topic, Checks::busy, x -> x.why(1, topic, 0, NONE), NO_SUCH);
        }
        for (int law : new int[] {LEAST, -7, -5, -1, 4, 80, GREATEST}) {
            refuses("12 no such law: " + law, Checks::busy, x -> x.why(3, 1, 0, law), NO_SUCH);
        }
        for (int length : new int[] {LEAST, -1, 0, 10, GREATEST}) {
            refuses("12 length: " + length, Checks::busy, x -> x.why(length, 1, 0, NONE), BAD_VALUE);
        }
        for (int stance : new int[] {LEAST, -1, 3, GREATEST}) {
            refuses("12 stance: " + stance, Checks::busy, x -> x.why(1, 1, stance, NONE), BAD_VALUE);
        }
        refuses("12 topic before length", Checks::busy, x -> x.why(0, 6, 0, NONE), NO_SUCH);
        refuses("12 law before stance", Checks::busy, x -> x.why(1, 0, 3, 4), NO_SUCH);
        refuses("12 80 laws were made", Checks::eighty, x -> x.why(2, 0, 0, NONE), TOO_MANY);
        refuses("12 80 laws were made: before a reason", Checks::eighty, x -> x.why(1, 0, 1, 79), TOO_MANY);
        refuses("12 topic before too many", Checks::eighty, x -> x.why(2, 6, 0, NONE), NO_SUCH);
        refuses("12 law before too many", Checks::eighty, x -> x.why(2, 0, 0, 80), NO_SUCH);
        refuses("12 length before too many", Checks::eighty, x -> x.why(10, 0, 0, NONE), BAD_VALUE);
        answersOnly("12 79 laws were made", () -> made(79), x -> x.why(2, 0, 0, NONE), 0);
        answersOnly("12 a reason is no change", Checks::busy, x -> x.why(3, 1, 1, NONE), 5);
        answersOnly("12 the least reason", Checks::busy, x -> x.why(3, 0, 0, NONE), 1);
        answersOnly("12 the greatest reason", Checks::fresh, x -> {
            x.set(YEAS, 4);
            int why = x.why(1, 0, 0, NONE);
            x.undo();
            return why;
        }, 7);
    }

    // ---- 13: votes

    private static void votesErrors() {
        for (int topic : new int[] {LEAST, -1, 6, GREATEST}) {
            refuses("13 no such topic: " + topic, Checks::busy, x -> x.votes(1, topic, 0, NONE), NO_SUCH);
        }
        for (int law : new int[] {LEAST, -7, -5, -1, 4, 80, GREATEST}) {
            refuses("13 no such law: " + law, Checks::busy, x -> x.votes(3, 1, 0, law), NO_SUCH);
        }
        for (int length : new int[] {LEAST, -1, 0, 10, GREATEST}) {
            refuses("13 length: " + length, Checks::busy, x -> x.votes(length, 1, 0, NONE), BAD_VALUE);
        }
        for (int stance : new int[] {LEAST, -1, 3, GREATEST}) {
            refuses("13 stance: " + stance, Checks::busy, x -> x.votes(1, 1, stance, NONE), BAD_VALUE);
        }
        refuses("13 topic before length", Checks::busy, x -> x.votes(0, 6, 0, NONE), NO_SUCH);
        refuses("13 law before stance", Checks::busy, x -> x.votes(1, 0, 3, 4), NO_SUCH);
    }

    private static void votesNoneAndAll() {
        answersOnly("13 without a wish: the even numbers", Checks::fresh, x -> x.votes(1, 0, 0, NONE), 1 | 4 | 16);
        answersOnly("13 80 laws were made: no error", Checks::eighty, x -> x.votes(2, 0, 0, NONE), 1 | 4 | 16);
        answers("13 none: 0", Checks::fresh, x -> votesIfAllWish(x, 0, 1, NONE), 0);
        answers("13 all: 31", Checks::fresh, x -> votesIfAllWish(x, 1, 1, NONE), 31);
        answers("13 of a bill that fails: like a law", Checks::oneLaw, x -> votesIfAllWish(x, 0, 0, NONE), 31);
        answers("13 of a bill that fails: no room", Checks::oneLaw, x -> {
            x.set(ROOM, 1);
            return x.votes(4, 1, 1, NONE);
        }, 1 | 4 | 16);
        answers("13 of a bill that fails: more YEAS", Checks::oneLaw, x -> {
            x.set(YEAS, 5);
            return x.votes(4, 1, 1, NONE);
        }, 1 | 4 | 16);
        answers("13 the law that it names, of another length", Checks::oneLaw, x -> {
            votesIfAllWish(x, 0, 0, NONE);
            return x.votes(9, 1, 0, 0);
        }, 0);
        answers("13 the law that it names, not in force", Checks::oneLaw, x -> {
            votesIfAllWish(x, 0, 0, NONE);
            x.repeal(0);
            return x.votes(9, 1, 0, 0);
        }, 0);
        answers("13 the law that it names, like it", Checks::oneLaw, x -> votesIfAllWish(x, 0, 0, 0), 1 | 4 | 16);
    }

    /** Who votes for a bill with a stance in the topic 0 when all have a wish there. */
    private static int votesIfAllWish(RepealedLaws x, int wish, int stance, int law) {
        for (int councillor = 0; councillor < 5; councillor++) {
            x.wish(councillor, 0, wish);
        }
        return x.votes(3, 0, stance, law);
    }

    // ---- 14: bestRepeal

    private static void bestRepeal() {
        for (int topic : new int[] {LEAST, NONE, -1, 6, GREATEST}) {
            refuses("14 no such topic: " + topic, Checks::busy, x -> x.bestRepeal(3, topic, 0), NO_SUCH);
        }
        for (int length : new int[] {LEAST, NONE, -1, 0, 10, GREATEST}) {
            refuses("14 length: " + length, Checks::busy, x -> x.bestRepeal(length, 1, 0), BAD_VALUE);
        }
        for (int stance : new int[] {LEAST, NONE, -1, 3, GREATEST}) {
            refuses("14 stance: " + stance, Checks::busy, x -> x.bestRepeal(3, 1, stance), BAD_VALUE);
        }
        refuses("14 topic before length", Checks::busy, x -> x.bestRepeal(0, 6, 0), NO_SUCH);
        refuses("14 topic before stance", Checks::busy, x -> x.bestRepeal(3, 6, 3), NO_SUCH);
        answersOnly("14 none in an empty code", Checks::fresh, x -> x.bestRepeal(3, 0, 0), NONE);
        answersOnly("14 none of this length, one word less", Checks::oneLaw, x -> x.bestRepeal(2, 0, 0), NONE);
        answersOnly("14 none of this length, one word more", Checks::oneLaw, x -> x.bestRepeal(4, 0, 0), NONE);
        answersOnly("14 none of this length in force", Checks::busy, x -> x.bestRepeal(7, 0, 0), NONE);
        answersOnly("14 the law 0, which is not NONE", Checks::oneLaw, x -> x.bestRepeal(3, 5, 2), 0);
        answersOnly("14 the first length", Checks::nineLaws, x -> x.bestRepeal(1, 5, 2), 0);
        answersOnly("14 the last length", Checks::nineLaws, x -> x.bestRepeal(9, 5, 2), 8);
        answersOnly("14 not those of this length that were repealed", Checks::busy, x -> x.bestRepeal(5, 0, 0), 3);
        answersOnly("14 80 laws were made: no error", Checks::eighty, x -> x.bestRepeal(1, 0, 0), 79);
        answersOnly("14 80 laws were made: none of this length", Checks::eighty, x -> x.bestRepeal(2, 0, 0), NONE);
        answers("14 without any vote", Checks::oneLaw, x -> {
            votesIfAllWish(x, 0, 0, NONE);
            return x.bestRepeal(3, 0, 1);
        }, 0);
        answers("14 also if the bill would fail", Checks::oneLaw, x -> x.bestRepeal(3, 0, 0), 0);
    }

    // ---- 15: longestBill

    private static void longestBillErrors() {
        for (int topic : new int[] {LEAST, NONE, -1, 6, GREATEST}) {
            refuses("15 no such topic: " + topic, Checks::busy, x -> x.longestBill(topic, 0), NO_SUCH);
        }
        for (int stance : new int[] {LEAST, NONE, -1, 3, GREATEST}) {
            refuses("15 stance: " + stance, Checks::busy, x -> x.longestBill(0, stance), BAD_VALUE);
        }
        refuses("15 topic before stance", Checks::busy, x -> x.longestBill(6, 3), NO_SUCH);
        refuses("15 80 laws were made", Checks::eighty, x -> x.longestBill(0, 0), TOO_MANY);
        refuses("15 80 laws were made: before none", Checks::eightyAndNoBill, x -> x.longestBill(0, 0), TOO_MANY);
        refuses("15 topic before too many", Checks::eighty, x -> x.longestBill(6, 0), NO_SUCH);
        refuses("15 stance before too many", Checks::eighty, x -> x.longestBill(0, 3), BAD_VALUE);
        answersOnly("15 79 laws were made", () -> made(79), x -> x.longestBill(0, 0), 9);
    }

    private static void longestBill() {
        answersOnly("15 9 words: an empty code", Checks::fresh, x -> x.longestBill(5, 2), 9);
        answersOnly("15 9 words: naming the one of 9", Checks::nineLaws, x -> x.longestBill(0, 0), 9);
        answersOnly("15 8 words: like the one of 9", Checks::nineLaws, x -> x.longestBill(0, 2), 8);
        answers("15 1 word: all others are like it", Checks::fresh, x -> {
            type(x, "20f30f40f50f60f70f80f90f");
            x.read();
            return x.longestBill(0, 0);
        }, 1);
        answers("15 none: all are like it", Checks::fresh, x -> {
            type(x, "10f20f30f40f50f60f70f80f90f");
            x.read();
            return x.longestBill(0, 0);
        }, NONE);
        answers("15 none: no votes", Checks::fresh, x -> {
            x.set(YEAS, 4);
            return x.longestBill(0, 0);
        }, NONE);
        answers("15 the only law, no room for more: it is named", Checks::oneLaw, x -> {
            x.set(ROOM, 1);
            return x.longestBill(1, 1);
        }, 3);
        answers("15 repealed lately at 9", Checks::fresh, x -> {
            x.propose(9, 0, 0, NONE);
            x.repeal(0);
            return x.longestBill(0, 0);
        }, 8);
        answers("15 no longer lately", Checks::fresh, x -> {
            x.propose(9, 0, 0, NONE);
            x.repeal(0);
            x.endSession();
            x.endSession();
            return x.longestBill(0, 0);
        }, 9);
    }

    // ---- 16: bestBill

    private static void bestBill() {
        refuses("16 80 laws were made", Checks::eighty, x -> x.bestBill(), TOO_MANY);
        refuses("16 80 laws were made: before none", Checks::eightyAndNoBill, x -> x.bestBill(), TOO_MANY);
        answersOnly("16 79 laws were made", () -> made(79), x -> x.bestBill(), 101);
        answersOnly("16 the least of all: 100", Checks::fresh, x -> x.bestBill(), 100);
        answers("16 the greatest of all: 952", Checks::fresh, x -> {
            onlyTheLast(x);
            return x.bestBill();
        }, 952);
        answers("16 none", Checks::fresh, x -> {
            onlyTheLast(x);
            x.propose(9, 5, 2, NONE);
            return x.bestBill();
        }, NONE);
        answers("16 none: no votes", Checks::fresh, x -> {
            x.set(YEAS, 4);
            return x.bestBill();
        }, NONE);
        answers("16 one vote, as many as YEAS", Checks::fresh, x -> {
            oneVoteEach(x);
            x.set(YEAS, 1);
            return x.bestBill();
        }, 100);
        answers("16 one vote, one fewer than YEAS", Checks::fresh, x -> {
            oneVoteEach(x);
            x.set(YEAS, 2);
            return x.bestBill();
        }, NONE);
    }

    /** In each topic the councillors 0, 2 and 4 wish one stance each, and so one votes for a bill. */
    private static void oneVoteEach(RepealedLaws x) {
        for (int topic = 0; topic < 6; topic++) {
            for (int stance = 0; stance < 3; stance++) {
                x.wish(2 * stance, topic, stance);
            }
        }
    }

    /** All wish the topic 5 demanded, laws of 1 to 8 words demand it, and all five have to vote for a bill. */
    private static void onlyTheLast(RepealedLaws x) {
        for (int councillor = 0; councillor < 5; councillor++) {
            x.wish(councillor, 5, 2);
        }
        type(x, "15d25d35d45d55d65d75d85d");
        x.read();
        x.set(YEAS, 5);
    }

    private static void bestBillOfSeveral() {
        answers("16 of several the least length: shorter ones fail", Checks::fresh, x -> {
            x.wish(0, 5, 2);
            x.propose(1, 5, 2, NONE);
            x.propose(2, 5, 2, NONE);
            return x.bestBill();
        }, 300);
        answers("16 the most votes before the least length", Checks::fresh, x -> {
            x.set(YEAS, 2);
            x.wish(0, 5, 2);
            x.propose(1, 5, 2, NONE);
            return x.bestBill();
        }, 200);
        answers("16 of these the lowest topic: all of the topic 0 fail", Checks::fresh, x -> {
            x.set(MEMORY, 9);
            type(x, "10f10a10d");
            x.read();
            return x.bestBill();
        }, 110);
        answers("16 of these the lowest stance: one fails", Checks::fresh, x -> {
            x.propose(1, 0, 0, NONE);
            return x.bestBill();
        }, 101);
        answers("16 of these the lowest stance: two fail", Checks::fresh, x -> {
            x.propose(1, 0, 0, NONE);
            x.propose(1, 0, 1, 0);
            return x.bestBill();
        }, 102);
        answers("16 the most votes before the lowest topic and stance", Checks::fresh, x -> {
            x.wish(1, 5, 2);
            return x.bestBill();
        }, 152);
        answers("16 it repeals the law that is best repealed", Checks::oneLaw, x -> {
            x.wish(1, 0, 1);
            return x.bestBill();
        }, 101);
        answers("16 it repeals a law that one wishes gone", Checks::oneLaw, x -> {
            x.wish(0, 0, 2);
            x.wish(1, 0, 2);
            x.wish(3, 0, 1);
            x.set(ROOM, 1);
            return x.bestBill();
        }, 310);
    }
}
