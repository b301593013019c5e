/** The boundary cases of the promises 1 to 7 (a new object, and the changes), each a test of its own. */
public final class RepealedLawsEdgesOfChanges extends Checks {
    public static void main(String[] args) {
        newObject();
        set();
        wish();
        propose();
        proposeInOrder();
        proposeFull();
        repeal();
        endSession();
        read();
        readNothing();
        readEnds();
        readFull();
        end();
    }

    // ---- 1: a new object

    private static void newObject() {
        int[] first = {3, 10, 2, 0, 0, 0, 0, 0, 0, 0, 0, 0, 0, 0};
        for (int i = 0; i < first.length; i++) {
            int what = i;
            answers("1 an empty code, in the session 0: count " + i, Checks::fresh, x -> x.count(what), first[i]);
        }
        answers("1 an empty code: no law", Checks::fresh, x -> x.law(0, 0), NO_SUCH);
        answers("1 an empty code: no fault but its end", Checks::fresh, x -> x.fault(), 0);
        answers("1 an empty code: no undo", Checks::fresh, x -> x.undo(), NOT_POSSIBLE);
        answers("1 an empty code: no slot 0", Checks::fresh, x -> x.restore(0), NOT_POSSIBLE);
        answers("1 an empty code: no slot 1", Checks::fresh, x -> x.restore(1), NOT_POSSIBLE);
        answers("1 an empty code beside a busy one", Checks::fresh, x -> {
            busy();
            return x.count(4) + x.count(12) + x.count(13);
        }, 0);
    }

    // ---- 2: set

    private static void set() {
        refuses("2 no such setting: -1", Checks::busy, x -> x.set(-1, 3), BAD_VALUE);
        refuses("2 no such setting: 3", Checks::busy, x -> x.set(3, 3), BAD_VALUE);
        refuses("2 no such setting: the least number", Checks::busy, x -> x.set(LEAST, 3), BAD_VALUE);
        refuses("2 no such setting: the greatest number", Checks::busy, x -> x.set(GREATEST, 3), BAD_VALUE);
        refuses("2 no such setting, and no such value", Checks::busy, x -> x.set(3, -1), BAD_VALUE);
        refuses("2 a value of another setting: YEAS 6", Checks::busy, x -> x.set(YEAS, 6), BAD_VALUE);
        refuses("2 a value of another setting: YEAS 0", Checks::busy, x -> x.set(YEAS, 0), BAD_VALUE);
        refuses("2 a value of another setting: ROOM 0", Checks::busy, x -> x.set(ROOM, 0), BAD_VALUE);
        refuses("2 a value of another setting: MEMORY 16", Checks::busy, x -> x.set(MEMORY, 16), BAD_VALUE);
        answers("2 the previous value: the first", Checks::fresh, x -> x.set(ROOM, 16), 10);
        answers("2 the previous value: the one set last", Checks::busy, x -> x.set(ROOM, 16), 9);
        answers("2 the previous value: the same", Checks::busy, x -> x.set(ROOM, 9), 9);
        answers("2 the previous value: 0", Checks::busy, x -> {
            x.set(MEMORY, 0);
            return x.set(MEMORY, 1);
        }, 0);
        answers("2 the previous value: not one that was refused", Checks::busy, x -> {
            x.set(YEAS, 6);
            return x.set(YEAS, 5);
        }, 2);
        isChange("2 this is a change", Checks::fresh, x -> x.set(YEAS, 5));
        isChange("2 this is a change, to the same value", Checks::fresh, x -> x.set(YEAS, 3));
    }

    // ---- 3: wish

    private static void wish() {
        answers("3 the first councillor and topic", Checks::fresh, x -> {
            x.wish(0, 0, 2);
            return x.councillor(0, 0);
        }, 2);
        answers("3 the last councillor and topic", Checks::fresh, x -> {
            x.wish(4, 5, 2);
            return x.councillor(4, 5);
        }, 2);
        for (int number : new int[] {LEAST, -1, 5, 6, 30, GREATEST}) {
            refuses("3 no such councillor: " + number, Checks::busy, x -> x.wish(number, 0, 0), NO_SUCH);
        }
        for (int number : new int[] {LEAST, -1, 6, 30, GREATEST}) {
            refuses("3 no such topic: " + number, Checks::busy, x -> x.wish(1, number, 0), NO_SUCH);
        }
        for (int wish : new int[] {LEAST, NONE, -1, 4, GREATEST}) {
            refuses("3 wish is out of range: " + wish, Checks::busy, x -> x.wish(0, 0, wish), BAD_VALUE);
        }
        refuses("3 councillor before wish", Checks::busy, x -> x.wish(5, 0, 4), NO_SUCH);
        refuses("3 topic before wish", Checks::busy, x -> x.wish(0, 6, 4), NO_SUCH);
        answers("3 the previous one: none at first", Checks::fresh, x -> x.wish(2, 2, 0), 3);
        answers("3 the previous one: 0", Checks::busy, x -> x.wish(4, 2, 1), 0);
        answers("3 the previous one: the same", Checks::busy, x -> x.wish(0, 0, 1), 1);
        answers("3 the wish taken back: 3", Checks::busy, x -> {
            x.wish(0, 0, 3);
            return x.councillor(0, 0);
        }, 3);
        isChange("3 this is a change", Checks::fresh, x -> x.wish(4, 5, 0));
        isChange("3 this is a change, to the same wish", Checks::fresh, x -> x.wish(4, 5, 3));
    }

    // ---- 4: propose

    private static void propose() {
        for (int number : new int[] {LEAST, -1, 6, 9, GREATEST}) {
            refuses("4 no such topic: " + number, Checks::busy, x -> x.propose(1, number, 0, NONE), NO_SUCH);
        }
        for (int law : new int[] {LEAST, -7, -5, -1, 4, 79, 80, GREATEST}) {
            refuses("4 neither NONE nor the number of a law: " + law, Checks::busy,
                    x -> x.propose(3, 1, 0, law), NO_SUCH);
        }
        for (int length : new int[] {LEAST, NONE, -1, 0, 10, GREATEST}) {
            refuses("4 length: " + length, Checks::busy, x -> x.propose(length, 1, 0, NONE), BAD_VALUE);
        }
        for (int stance : new int[] {LEAST, NONE, -1, 3, GREATEST}) {
            refuses("4 stance: " + stance, Checks::busy, x -> x.propose(1, 1, stance, NONE), BAD_VALUE);
        }
        refuses("4 no law 0 before one is made", Checks::fresh, x -> x.propose(3, 0, 0, 0), NO_SUCH);
        answers("4 the number of a law: the first", Checks::oneLaw, x -> x.propose(3, 1, 0, 0), 1);
        answers("4 the number of a law: the last", Checks::busy, x -> x.propose(5, 1, 2, 3), 4);
        refuses("4 the number of a law that was undone", () -> {
            RepealedLaws x = oneLaw();
            x.undo();
            return x;
        }, x -> x.propose(3, 1, 0, 0), NO_SUCH);
        refuses("4 it fails, reason 1", Checks::busy, x -> x.propose(3, 0, 0, NONE), NOT_POSSIBLE);
        refuses("4 it fails, reason 2", Checks::busy, x -> x.propose(3, 0, 0, 0), NOT_POSSIBLE);
        refuses("4 it fails, reason 3", Checks::busy, x -> x.propose(7, 2, 2, NONE), NOT_POSSIBLE);
        refuses("4 it fails, reason 4", Checks::busy, x -> x.propose(7, 2, 1, 2), NOT_POSSIBLE);
        refuses("4 it fails, reason 5", Checks::busy, x -> x.propose(3, 1, 1, NONE), NOT_POSSIBLE);
        refuses("4 it fails, reason 6", () -> {
            RepealedLaws x = oneLaw();
            x.set(ROOM, 1);
            return x;
        }, x -> x.propose(4, 1, 1, NONE), NOT_POSSIBLE);
        refuses("4 it fails, reason 7", () -> {
            RepealedLaws x = oneLaw();
            x.set(YEAS, 4);
            return x;
        }, x -> x.propose(4, 1, 1, NONE), NOT_POSSIBLE);
        isChange("4 this is a change, if it passes", Checks::oneLaw, x -> x.propose(4, 1, 1, NONE));
        isChange("4 this is a change, if it passes and repeals", Checks::oneLaw, x -> x.propose(3, 1, 1, 0));
    }

    /** Of two errors the first one that is named is returned. */
    private static void proposeInOrder() {
        refuses("4 topic before length", Checks::busy, x -> x.propose(0, 6, 0, NONE), NO_SUCH);
        refuses("4 topic before stance", Checks::busy, x -> x.propose(1, 6, 3, NONE), NO_SUCH);
        refuses("4 law before length", Checks::busy, x -> x.propose(10, 0, 0, 4), NO_SUCH);
        refuses("4 law before stance", Checks::busy, x -> x.propose(1, 0, 3, 4), NO_SUCH);
        refuses("4 length before a failing bill", Checks::busy, x -> x.propose(0, 0, 0, 0), BAD_VALUE);
        refuses("4 stance before a failing bill", Checks::busy, x -> x.propose(3, 0, 3, NONE), BAD_VALUE);
        refuses("4 topic before too many", Checks::eighty, x -> x.propose(2, 6, 0, NONE), NO_SUCH);
        refuses("4 law before too many", Checks::eighty, x -> x.propose(2, 0, 0, 80), NO_SUCH);
        refuses("4 length before too many", Checks::eighty, x -> x.propose(10, 0, 0, NONE), BAD_VALUE);
        refuses("4 stance before too many", Checks::eighty, x -> x.propose(2, 0, 3, NONE), BAD_VALUE);
        refuses("4 too many before a failing bill", Checks::eighty, x -> x.propose(1, 0, 1, 79), TOO_MANY);
    }

    private static void proposeFull() {
        answers("4 79 laws were made: one more", () -> made(79), x -> x.propose(2, 0, 0, NONE), 79);
        refuses("4 79 laws were made: a bill that fails", () -> made(79), x -> x.propose(1, 0, 1, NONE), NOT_POSSIBLE);
        refuses("4 80 laws were made", Checks::eighty, x -> x.propose(2, 0, 0, NONE), TOO_MANY);
        answers("4 80 laws were made, in a session before", Checks::eighty, x -> {
            x.endSession();
            return x.propose(2, 0, 0, NONE);
        }, TOO_MANY);
        answers("4 80 laws were made, but undone", Checks::eighty, x -> {
            x.undo();
            return x.propose(2, 0, 0, NONE);
        }, 60);
        answers("4 80 laws were made, but fewer restored", Checks::fresh, x -> {
            x.save(0);
            makeLaws(x, 80);
            x.restore(0);
            return x.propose(2, 0, 0, NONE);
        }, 0);
    }

    // ---- 5: repeal

    private static void repeal() {
        answers("5 for how many sessions: none, in its own", Checks::oneLaw, x -> x.repeal(0), 0);
        answers("5 for how many sessions: one", Checks::oneLaw, x -> {
            x.endSession();
            return x.repeal(0);
        }, 1);
        answers("5 for how many sessions: since it was made", Checks::fresh, x -> {
            type(x, "10f!".repeat(15));
            x.read();
            x.propose(2, 0, 0, NONE);
            x.endSession();
            return x.repeal(1);
        }, 1);
        answers("5 for how many sessions: 30", Checks::oneLaw, x -> {
            for (int i = 0; i < 2; i++) {
                type(x, "30f!".repeat(15));
                x.read();
            }
            return x.repeal(0);
        }, 30);
        answers("5 by decree: no votes", Checks::oneLaw, x -> {
            for (int councillor = 0; councillor < 5; councillor++) {
                x.wish(councillor, 0, 0);
            }
            return x.repeal(0);
        }, 0);
        answers("5 by decree: by no law", Checks::oneLaw, x -> {
            x.repeal(0);
            return x.law(0, 6);
        }, NONE);
        answers("5 with 80 laws", Checks::eighty, x -> x.repeal(79), 0);
        for (int law : new int[] {LEAST, NONE, -1, 4, 79, 80, GREATEST}) {
            refuses("5 no such law: " + law, Checks::busy, x -> x.repeal(law), NO_SUCH);
        }
        refuses("5 no such law: 0 in an empty code", Checks::fresh, x -> x.repeal(0), NO_SUCH);
        refuses("5 not in force: repealed by a bill", Checks::busy, x -> x.repeal(1), NOT_POSSIBLE);
        refuses("5 not in force: repealed by decree", Checks::busy, x -> x.repeal(2), NOT_POSSIBLE);
        answers("5 in force again, when undone", Checks::oneLaw, x -> {
            x.repeal(0);
            x.undo();
            return x.repeal(0);
        }, 0);
        isChange("5 this is a change", Checks::oneLaw, x -> x.repeal(0));
    }

    // ---- 6: endSession

    private static void endSession() {
        answers("6 none made in it", Checks::fresh, x -> x.endSession(), 0);
        answers("6 the next session", Checks::fresh, x -> {
            x.endSession();
            return x.count(3);
        }, 1);
        answers("6 one made in it", Checks::oneLaw, x -> x.endSession(), 1);
        answers("6 made in it, not in the one before", Checks::oneLaw, x -> {
            x.endSession();
            return x.endSession();
        }, 0);
        answers("6 made in it, also if it was repealed in it", Checks::oneLaw, x -> {
            x.repeal(0);
            return x.endSession();
        }, 1);
        answers("6 made in it, not only repealed in it", Checks::oneLaw, x -> {
            x.endSession();
            x.repeal(0);
            return x.endSession();
        }, 0);
        answers("6 made in it, not if it was undone", Checks::oneLaw, x -> {
            x.undo();
            return x.endSession();
        }, 0);
        answers("6 made in it, not a bill that failed", Checks::oneLaw, x -> {
            x.propose(3, 1, 1, NONE);
            return x.endSession();
        }, 1);
        answers("6 all 80 made in it", Checks::eighty, x -> x.endSession(), 80);
        answers("6 made in read() behind the last \"!\"", Checks::fresh, x -> {
            type(x, "10f20f!30f");
            x.read();
            return x.endSession();
        }, 1);
        answers("6 a session restored: what was made in it", Checks::oneLaw, x -> {
            x.save(1);
            x.endSession();
            x.restore(1);
            return x.endSession();
        }, 1);
        isChange("6 this is a change", Checks::busy, x -> x.endSession());
        isChange("6 this is a change, of an empty session", Checks::fresh, x -> x.endSession());
    }

    // ---- 7: read

    private static void read() {
        answers("7 one bill", Checks::fresh, x -> passing(x, "10f"), 1);
        answers("7 twenty bills", Checks::fresh, x -> {
            x.set(MEMORY, 0);
            return passing(x, "10f10a".repeat(10));
        }, 20);
        answers("7 none passes", Checks::oneLaw, x -> passing(x, "30f30f!"), 0);
        answers("7 those that fail are passed over: the first", Checks::oneLaw, x -> passing(x, "30f40f"), 1);
        answers("7 those that fail are passed over: the last", Checks::oneLaw, x -> passing(x, "40f30f"), 1);
        answers("7 those that fail are passed over: they are told", Checks::oneLaw, x -> {
            passing(x, "30f40f30f");
            return x.count(11);
        }, 2);
        answers("7 one after the other: the first is repealed by the second", Checks::fresh, x -> {
            passing(x, "10f10a");
            return 10 * x.law(0, 6) + x.law(1, 5);
        }, 10);
        answers("7 each names none, if there is none", Checks::oneLaw, x -> {
            passing(x, "40f");
            return x.law(1, 5);
        }, NONE);
        answers("7 empties the pad", Checks::oneLaw, x -> {
            passing(x, "40f30f");
            return x.count(12);
        }, 0);
        answers("7 empties the pad, if none passes", Checks::oneLaw, x -> {
            passing(x, "30f");
            return x.count(12);
        }, 0);
        isChange("7 this is a change", Checks::busy, x -> {
            type(x, "5d");
            return x.read();
        });
        isChange("7 this is a change, if none passes", Checks::oneLaw, x -> passing(x, "30f"));
        answers("7 one change for all bills", Checks::fresh, x -> {
            passing(x, "10f20f!30f!");
            return x.count(13);
        }, 1);
    }

    private static void readNothing() {
        refuses("7 a fault: the pad is empty", Checks::fresh, x -> x.read(), BAD_TEXT);
        for (String text : new String[] {"1", "10", "10f2", "10f20", "10f!2", "!", "x", "10x", "16f", "00f", "10f!!",
                "10f10a10", "10f20f!30f40x"}) {
            refuses("7 a fault: \"" + text + "\"", () -> {
                RepealedLaws x = oneLaw();
                type(x, text);
                return x;
            }, x -> x.read(), BAD_TEXT);
        }
        refuses("7 a fault: the last of 60 characters", () -> {
            RepealedLaws x = oneLaw();
            type(x, "10f!".repeat(14) + "10f1");
            return x;
        }, x -> x.read(), BAD_TEXT);
        answers("7 a fault: the pad stays", Checks::fresh, x -> {
            type(x, "10f2");
            x.read();
            return x.wipe();
        }, 4);
        answers("7 a second read finds the pad empty", Checks::fresh, x -> {
            passing(x, "10f");
            return x.read();
        }, BAD_TEXT);
    }

    private static void readEnds() {
        answers("7 a session ends behind its bill, not before", Checks::fresh, x -> {
            passing(x, "10f!");
            return x.law(0, 3);
        }, 0);
        answers("7 MEMORY sessions end between: it passes", Checks::fresh, x -> {
            x.set(MEMORY, 1);
            return passing(x, "10f10a!10f");
        }, 3);
        answers("7 MEMORY sessions do not end between: it fails", Checks::fresh, x -> {
            x.set(MEMORY, 1);
            return passing(x, "10f10a10f");
        }, 2);
        answers("7 a session ends at the end of the text", Checks::fresh, x -> {
            passing(x, "10f20f!");
            return x.count(3);
        }, 1);
    }

    private static void readFull() {
        answers("7 80 laws were made: none passes", Checks::eighty, x -> passing(x, "20f30f"), 0);
        answers("7 80 laws were made: they fail", Checks::eighty, x -> {
            passing(x, "20f30f");
            return x.count(11);
        }, 2);
        answers("7 80 laws were made: the session ends", Checks::eighty, x -> {
            passing(x, "20f!30f!");
            return x.count(3);
        }, 2);
        answers("7 80 laws were made: the pad is emptied", Checks::eighty, x -> {
            passing(x, "20f");
            return x.wipe();
        }, 0);
        answers("7 80 laws were made: no law is repealed", Checks::eighty, x -> {
            passing(x, "11d");
            return x.law(79, 4);
        }, NONE);
        answers("7 79 laws were made: one passes", () -> made(79), x -> passing(x, "20f30f"), 1);
        answers("7 79 laws were made: the others fail", () -> made(79), x -> {
            passing(x, "20f30f40f");
            return 100 * x.count(4) + x.count(11);
        }, 8002);
        isChange("7 80 laws were made: a change all the same", Checks::eighty, x -> passing(x, "20f"));
        refuses("7 80 laws were made: a fault", () -> {
            RepealedLaws x = eighty();
            type(x, "2");
            return x;
        }, x -> x.read(), BAD_TEXT);
    }

    private static int passing(RepealedLaws x, String text) {
        type(x, text);
        return x.read();
    }
}
