import java.util.function.ToIntFunction;

/** The boundary cases of the promises 17 to 22 (texts, undo, saving), each a test of its own. */
public final class RepealedLawsEdgesOfStates extends Checks {
    public static void main(String[] args) {
        putCodes();
        putManyOrNone();
        putGaps();
        putFull();
        wipe();
        fault();
        undoNone();
        undoAtMostSix();
        undoWrapsAround();
        undoEverything();
        undoNotThese();
        noChange();
        save();
        saveKeeps();
        restore();
        restoreKeeps();
        restoreEverything();
        otherLaws();
        end();
    }

    // ---- 17: put

    private static void putCodes() {
        for (int code = 33; code <= 126; code++) {
            int sign = code;
            answers("17 a code is 33 to 126: " + sign, Checks::fresh, x -> x.put(sign), 1);
        }
        for (int code = 1; code <= 255; code++) {
            if (code < 33 || code > 126) {
                int sign = code;
                answers("17 a code is not 33 to 126: " + sign, Checks::fresh, x -> x.put(sign), BAD_VALUE);
            }
        }
        refuses("17 a code is 32", Checks::busy, x -> x.put(32), BAD_VALUE);
        refuses("17 a code is 127", Checks::busy, x -> x.put(127), BAD_VALUE);
        long eight = characters("12345678");
        for (int place = 0; place < 8; place++) {
            int shift = 8 * place;
            refuses("17 a code is 32, " + place + " before the last", Checks::busy,
                    x -> x.put(eight & ~(255L << shift) | 32L << shift), BAD_VALUE);
            refuses("17 a code is 127, " + place + " before the last", Checks::busy,
                    x -> x.put(eight & ~(255L << shift) | 127L << shift), BAD_VALUE);
            refuses("17 a code is above 127, " + place + " before the last", Checks::busy,
                    x -> x.put(eight | 128L << shift), BAD_VALUE);
            answers("17 a code is 33, " + place + " before the last", Checks::fresh,
                    x -> x.put(eight & ~(255L << shift) | 33L << shift), 8);
            answers("17 a code is 126, " + place + " before the last", Checks::fresh,
                    x -> x.put(eight & ~(255L << shift) | 126L << shift), 8);
        }
    }

    private static void putManyOrNone() {
        refuses("17 no character", Checks::busy, x -> x.put(0), BAD_VALUE);
        refuses("17 no character on an empty pad", Checks::fresh, x -> x.put(0), BAD_VALUE);
        for (int many = 1; many <= 8; many++) {
            int length = many;
            answers("17 1 to 8 characters: " + many, Checks::fresh,
                    x -> x.put(characters("12345678".substring(0, length))), length);
        }
        answers("17 its lowest 8 bits are the last character", Checks::fresh, x -> {
            x.put((long) '1' << 16 | '0' << 8 | 'f');
            return x.fault();
        }, NONE);
        answers("17 the highest of 8 is the first character", Checks::fresh, x -> {
            x.put(characters("x0f10f10"));
            return x.fault();
        }, 0);
        answers("17 appends: behind what there is", Checks::fresh, x -> {
            x.put('1');
            x.put('0');
            x.put('f');
            return x.fault();
        }, NONE);
        answers("17 the length of the pad then", Checks::busy, x -> x.put(characters("4a")), 6);
        answers("17 the greatest number that stands for characters", Checks::fresh, x -> x.put(0x7e7e7e7e7e7e7e7eL), 8);
        answers("17 the least number that stands for eight", Checks::fresh, x -> x.put(0x2121212121212121L), 8);
    }

    private static void putGaps() {
        for (int many = 1; many <= 7; many++) {
            long text = characters("1234567".substring(0, many));
            int above = 8 * many + 8;
            refuses("17 nothing behind " + many + " characters", Checks::busy, x -> x.put(text << 8), BAD_VALUE);
            for (int bit = above; bit < 64; bit++) {
                int high = bit;
                answers("17 the bit " + bit + " above " + many + " characters and 8 bits that are 0", Checks::fresh,
                        x -> x.put(text | 1L << high), BAD_VALUE);
            }
        }
        for (int bit = 8; bit < 64; bit++) {
            int high = bit;
            answers("17 only the bit " + bit + " above 8 bits that are 0", Checks::fresh, x -> x.put(1L << high), BAD_VALUE);
        }
        refuses("17 a character above 8 bits that are 0", Checks::busy, x -> x.put('1' << 16 | '1'), BAD_VALUE);
        refuses("17 the highest bit alone", Checks::busy, x -> x.put(Long.MIN_VALUE), BAD_VALUE);
        refuses("17 the greatest number", Checks::busy, x -> x.put(Long.MAX_VALUE), BAD_VALUE);
        refuses("17 all bits", Checks::busy, x -> x.put(-1L), BAD_VALUE);
        refuses("17 a character below a negative number", Checks::busy, x -> x.put(-1L << 8 | '1'), BAD_VALUE);
    }

    private static void putFull() {
        for (int many = 1; many <= 8; many++) {
            String text = "12345678".substring(0, many);
            answers("17 60 then, by " + many, () -> padOf(60 - text.length()), x -> x.put(characters(text)), 60);
            refuses("17 61 then, by " + many, () -> padOf(61 - text.length()), x -> x.put(characters(text)), TOO_MANY);
        }
        refuses("17 68 then", Checks::fullPad, x -> x.put(characters("12345678")), TOO_MANY);
        refuses("17 no character before too many", Checks::fullPad, x -> x.put(0), BAD_VALUE);
        refuses("17 a code before too many", Checks::fullPad, x -> x.put(127), BAD_VALUE);
        refuses("17 a bit above before too many", Checks::fullPad, x -> x.put(1L << 63 | '1'), BAD_VALUE);
        answers("17 full, and wiped", Checks::fullPad, x -> {
            x.wipe();
            return x.put('1');
        }, 1);
        answers("17 full, and read", Checks::fullPad, x -> {
            x.read();
            return x.put('1');
        }, 1);
    }

    private static RepealedLaws padOf(int length) {
        RepealedLaws x = new RepealedLaws();
        type(x, "10f10a".repeat(10).substring(0, length));
        return x;
    }

    // ---- 18: wipe

    private static void wipe() {
        answersOnly("18 the length that it had: empty", Checks::fresh, x -> x.wipe(), 0);
        answers("18 the length that it had: 1", () -> padOf(1), x -> x.wipe(), 1);
        answers("18 the length that it had: 60", Checks::fullPad, x -> x.wipe(), 60);
        answers("18 empties the pad", Checks::fullPad, x -> {
            x.wipe();
            return x.count(12);
        }, 0);
        answers("18 empties the pad: wiped again", Checks::fullPad, x -> {
            x.wipe();
            return x.wipe();
        }, 0);
        answers("18 empties the pad: nothing is left behind new characters", Checks::fullPad, x -> {
            x.wipe();
            x.put('1');
            return x.fault();
        }, 1);
        answers("18 is no change", Checks::busy, x -> {
            x.undo();
            x.wipe();
            return x.count(13);
        }, 5);
    }

    // ---- 19: fault

    private static void fault() {
        answersOnly("19 empty: its length", Checks::fresh, x -> x.fault(), 0);
        answersOnly("19 none", Checks::fullPad, x -> x.fault(), NONE);
        answersOnly("19 the text ends too early: its length", Checks::busy, x -> x.fault(), 4);
        answersOnly("19 the text ends too early: 59", () -> padOf(59), x -> x.fault(), 59);
        answersOnly("19 the text ends too early: 58", () -> padOf(58), x -> x.fault(), 58);
        answersOnly("19 one bill and no more", () -> padOf(3), x -> x.fault(), NONE);
        answers("19 the first of two characters that cannot stand", () -> padOf(3), x -> {
            x.put(characters("xx"));
            return x.fault();
        }, 3);
        answers("19 a character that cannot stand before an end too early", () -> padOf(3), x -> {
            x.put(characters("1x"));
            return x.fault();
        }, 4);
        answers("19 the last of 60", () -> padOf(59), x -> {
            x.put('!');
            return x.fault();
        }, 59);
        answers("19 the first of 60", Checks::fresh, x -> {
            type(x, "!" + "10f10a".repeat(10).substring(0, 59));
            return x.fault();
        }, 0);
    }

    // ---- 20: undo

    private static void undoNone() {
        refuses("20 there is none: a new object", Checks::fresh, x -> x.undo(), NOT_POSSIBLE);
        refuses("20 there is none: only a pad", Checks::fullPad, x -> x.undo(), NOT_POSSIBLE);
        refuses("20 there is none: only a slot", () -> {
            RepealedLaws x = new RepealedLaws();
            x.save(0);
            return x;
        }, x -> x.undo(), NOT_POSSIBLE);
        refuses("20 there is none: the one was undone", () -> {
            RepealedLaws x = oneLaw();
            x.undo();
            return x;
        }, x -> x.undo(), NOT_POSSIBLE);
        refuses("20 there is none: six were undone", () -> ended(10, 6), x -> x.undo(), NOT_POSSIBLE);
        answers("20 how many can be undone then: 0", Checks::oneLaw, x -> x.undo(), 0);
        answers("20 how many can be undone then: 5", Checks::busy, x -> x.undo(), 5);
    }

    /** So many sessions ended one after the other, and so many times undone. */
    private static RepealedLaws ended(int sessions, int undone) {
        RepealedLaws x = new RepealedLaws();
        for (int i = 0; i < sessions; i++) {
            x.endSession();
        }
        for (int i = 0; i < undone; i++) {
            x.undo();
        }
        return x;
    }

    private static void undoAtMostSix() {
        for (int changes = 0; changes <= 15; changes++) {
            int sessions = changes;
            answers("20 at most 6 states: after " + changes, () -> ended(sessions, 0), x -> x.count(13),
                    Math.min(changes, 6));
            for (int times = 1; times <= Math.min(changes, 6); times++) {
                int undone = times;
                answers("20 the state before the change: " + changes + ", undone " + times,
                        () -> ended(sessions, undone), x -> x.count(3), changes - times);
                answers("20 how many can be undone then: " + changes + ", undone " + times,
                        () -> ended(sessions, undone - 1), x -> x.undo(), Math.min(changes, 6) - times);
            }
        }
        for (int times = 0; times <= 6; times++) {
            int undone = times;
            answers("20 at most 6 states: after 300, undone " + times, () -> ended(300, undone), x -> x.count(13), 6 - times);
            answers("20 the state before the change: 300, undone " + times, () -> ended(300, undone), x -> x.count(3),
                    300 - times);
        }
        answers("20 the oldest one is dropped, not the latest", () -> ended(7, 6), x -> x.count(3), 1);
    }

    /** Changes behind undone ones take the places of these, also where the history wraps around. */
    private static void undoWrapsAround() {
        for (int changes = 1; changes <= 13; changes++) {
            int first = changes;
            for (int times = 1; times <= Math.min(changes, 6); times++) {
                int undone = times;
                answers("20 one change behind " + changes + " changes, undone " + times, () -> ended(first, undone), x -> {
                    x.set(YEAS, 5);
                    return x.count(13);
                }, Math.min(changes, 6) - times + 1);
                answers("20 undone again behind " + changes + " changes, undone " + times, () -> ended(first, undone), x -> {
                    x.set(YEAS, 5);
                    x.undo();
                    return 10 * x.count(3) + x.count(0);
                }, 10 * (changes - times) + 3);
                answers("20 six changes behind " + changes + " changes, undone " + times, () -> ended(first, undone), x -> {
                    for (int i = 0; i < 6; i++) {
                        x.set(YEAS, 5);
                    }
                    for (int i = 0; i < 6; i++) {
                        x.undo();
                    }
                    return 10 * x.count(3) + x.count(0);
                }, 10 * (changes - times) + 3);
            }
        }
    }

    private static void undoEverything() {
        undoes("the settings", x -> x.set(MEMORY, 9), x -> x.count(2), 7);
        undoes("the wishes", x -> x.wish(4, 2, 1), x -> x.councillor(4, 2), 0);
        undoes("the laws", x -> x.propose(1, 1, 1, NONE), x -> x.count(4), 4);
        undoes("the law that was repealed by a bill", x -> x.propose(3, 1, 1, 0), x -> x.law(0, 4), NONE);
        undoes("by what it was repealed", x -> x.propose(3, 1, 1, 0), x -> x.law(0, 6), NONE);
        undoes("the law that was repealed by decree", x -> x.repeal(0), x -> x.law(0, 4), NONE);
        undoes("the session", x -> x.endSession(), x -> x.count(3), 2);
        undoes("bills that failed", Checks::readsAFailure, x -> x.count(11), 2);
        undoes("what was restored", x -> x.restore(1), x -> x.count(5), 2);
        answers("20 the number of a law undone is free again", Checks::oneLaw, x -> {
            x.undo();
            return x.propose(9, 5, 2, NONE);
        }, 0);
        answers("20 a law undone leaves nothing for its number", Checks::oneLaw, x -> {
            x.repeal(0);
            x.undo();
            x.undo();
            x.propose(9, 5, 2, NONE);
            return x.law(0, 4);
        }, NONE);
    }

    private static void undoes(String what, ToIntFunction<RepealedLaws> change, ToIntFunction<RepealedLaws> question,
            int want) {
        answers("20 as it was before: " + what, Checks::busy, x -> {
            due("20 a change: " + what, change.applyAsInt(x) >= 0 ? 1 : 0, 1);
            x.undo();
            return question.applyAsInt(x);
        }, want);
    }

    private static void undoNotThese() {
        answers("20 not the pad: it stays", () -> ended(1, 0), x -> {
            type(x, "10f2");
            x.undo();
            return x.wipe();
        }, 4);
        answers("20 not the pad: read() has emptied it", Checks::fullPad, x -> {
            x.read();
            x.undo();
            return x.count(12);
        }, 0);
        answers("20 not the pad: it stays empty", Checks::fullPad, x -> {
            x.endSession();
            x.wipe();
            x.undo();
            return x.count(12);
        }, 0);
        answers("20 not the slots: saved behind the change", () -> ended(1, 0), x -> {
            x.save(0);
            x.undo();
            x.restore(0);
            return x.count(3);
        }, 1);
        answers("20 not the slots: saved over behind the change", Checks::fresh, x -> {
            x.save(0);
            x.endSession();
            x.save(0);
            x.undo();
            x.restore(0);
            return x.count(3);
        }, 1);
        answers("20 not the history: no redo", () -> ended(2, 1), x -> x.count(13), 1);
        answers("20 undo() is no change itself", () -> ended(3, 1), x -> {
            x.undo();
            return x.count(3);
        }, 1);
    }

    /** What records no state. */
    private static void noChange() {
        recordsNothing("put()", x -> x.put('1'));
        recordsNothing("wipe()", x -> x.wipe());
        recordsNothing("fault()", x -> x.fault());
        recordsNothing("save()", x -> x.save(1));
        recordsNothing("law()", x -> x.law(0, 0));
        recordsNothing("topic()", x -> x.topic(0, 0));
        recordsNothing("councillor()", x -> x.councillor(0, 0));
        recordsNothing("count()", x -> x.count(0));
        recordsNothing("why()", x -> x.why(4, 1, 1, NONE));
        recordsNothing("votes()", x -> x.votes(4, 1, 1, NONE));
        recordsNothing("bestRepeal()", x -> x.bestRepeal(3, 1, 1));
        recordsNothing("longestBill()", x -> x.longestBill(1, 1));
        recordsNothing("bestBill()", x -> x.bestBill());
        recordsNothing("set() with an error", x -> x.set(0, 0));
        recordsNothing("wish() with an error", x -> x.wish(0, 0, 4));
        recordsNothing("propose() with an error", x -> x.propose(0, 0, 0, NONE));
        recordsNothing("propose() of a bill that fails", x -> x.propose(3, 0, 0, NONE));
        recordsNothing("repeal() with an error", x -> x.repeal(1));
        recordsNothing("read() with an error", x -> x.read());
        recordsNothing("save() with an error", x -> x.save(2));
        recordsNothing("restore() with an error", x -> x.restore(2));
        recordsNothing("restore() of nothing", x -> x.restore(0));
    }

    private static void recordsNothing(String what, ToIntFunction<RepealedLaws> call) {
        answers("20 records no state: " + what, Checks::oneLaw, x -> {
            call.applyAsInt(x);
            return x.count(13);
        }, 1);
    }

    // ---- 21: save

    private static void save() {
        for (int slot : new int[] {LEAST, NONE, -1, 2, GREATEST}) {
            refuses("21 no such slot: " + slot, Checks::busy, x -> x.save(slot), BAD_VALUE);
        }
        answers("21 slot 0", Checks::busy, x -> x.save(0), 2);
        answers("21 slot 1", Checks::busy, x -> x.save(1), 2);
        answers("21 how many laws are in force: none", Checks::fresh, x -> x.save(0), 0);
        answers("21 how many laws are in force: none any more", Checks::oneLaw, x -> {
            x.repeal(0);
            return x.save(0);
        }, 0);
        answers("21 how many laws are in force: nine", Checks::nineLaws, x -> x.save(0), 9);
        answers("21 how many laws are in force: one of 80", Checks::eighty, x -> x.save(0), 1);
        answers("21 changes nothing but the slot", Checks::busy, x -> {
            String before = seen(x) + x.count(12) + x.count(13);
            x.save(0);
            return before.equals(seen(x) + x.count(12) + x.count(13)) ? 1 : 0;
        }, 1);
    }

    private static void saveKeeps() {
        answers("21 overwrites what was saved there", Checks::oneLaw, x -> {
            x.save(0);
            x.repeal(0);
            x.save(0);
            return x.restore(0);
        }, 0);
        answers("21 does not overwrite the other slot", Checks::oneLaw, x -> {
            x.save(0);
            x.repeal(0);
            x.save(1);
            return x.restore(0);
        }, 1);
        answers("21 does not fill the other slot", Checks::oneLaw, x -> {
            x.save(0);
            return x.restore(1);
        }, NOT_POSSIBLE);
        answers("21 what is refused does not fill a slot", Checks::oneLaw, x -> {
            x.save(2);
            x.save(-1);
            return x.restore(0) + x.restore(1);
        }, 2 * NOT_POSSIBLE);
        answers("21 not the pad: it is not saved", Checks::fullPad, x -> {
            x.save(0);
            x.wipe();
            x.restore(0);
            return x.count(12);
        }, 0);
        answers("21 not the history: it is not saved", () -> ended(3, 0), x -> {
            x.save(0);
            x.undo();
            x.undo();
            x.undo();
            x.restore(0);
            return x.count(13);
        }, 1);
        answers("21 not the slots: the other one is not saved", () -> ended(3, 0), x -> {
            x.save(1);
            x.save(0);
            x.endSession();
            x.save(1);
            x.restore(0);
            x.restore(1);
            return x.count(3);
        }, 4);
    }

    // ---- 22: restore

    private static void restore() {
        for (int slot : new int[] {LEAST, NONE, -1, 2, GREATEST}) {
            refuses("22 no such slot: " + slot, Checks::busy, x -> x.restore(slot), BAD_VALUE);
        }
        refuses("22 nothing was saved in slot 0", Checks::nineLaws, x -> x.restore(0), NOT_POSSIBLE);
        refuses("22 nothing was saved in slot 1", Checks::nineLaws, x -> x.restore(1), NOT_POSSIBLE);
        refuses("22 nothing was saved in slot 0, but in slot 1", () -> {
            RepealedLaws x = oneLaw();
            x.save(1);
            return x;
        }, x -> x.restore(0), NOT_POSSIBLE);
        answers("22 how many laws are in force then: those of slot 0", Checks::busy, x -> x.restore(0), 2);
        answers("22 how many laws are in force then: those of slot 1", Checks::busy, x -> x.restore(1), 3);
        answers("22 how many laws are in force then: none", Checks::fresh, x -> {
            x.save(1);
            x.propose(3, 0, 0, NONE);
            return x.restore(1);
        }, 0);
        isChange("22 this is a change", Checks::busy, x -> x.restore(1));
        isChange("22 this is a change, if all is as it was saved", () -> {
            RepealedLaws x = oneLaw();
            x.save(1);
            return x;
        }, x -> x.restore(1));
    }

    private static void restoreKeeps() {
        answers("22 a slot keeps it: restored twice", Checks::busy, x -> {
            x.restore(1);
            x.repeal(0);
            return x.restore(1);
        }, 3);
        answers("22 a slot keeps it: other laws made later", Checks::busy, x -> {
            x.restore(1);
            x.propose(1, 1, 1, NONE);
            x.propose(3, 1, 1, 0);
            x.restore(1);
            return x.law(0, 6);
        }, NONE);
        answers("22 a slot keeps it: wishes and settings of later", Checks::busy, x -> {
            x.restore(1);
            x.wish(0, 0, 2);
            x.set(YEAS, 5);
            x.restore(1);
            return 10 * x.councillor(0, 0) + x.count(0);
        }, 12);
        answers("22 a slot keeps it: undone", Checks::busy, x -> {
            x.restore(1);
            x.undo();
            return x.restore(1);
        }, 3);
        answers("22 not the pad: it stays", Checks::busy, x -> {
            x.restore(1);
            return x.wipe();
        }, 4);
        answers("22 not the history: it stays", Checks::busy, x -> {
            x.restore(1);
            x.undo();
            return x.count(13) * 10 + x.count(5);
        }, 52);
        answers("22 not the slots: the other one stays", Checks::busy, x -> {
            x.restore(1);
            return x.restore(0);
        }, 2);
    }

    private static void restoreEverything() {
        restores("the settings", x -> x.set(ROOM, 16), x -> x.count(1), 9);
        restores("the wishes", x -> x.wish(3, 5, 3), x -> x.councillor(3, 5), 2);
        restores("the laws", x -> x.propose(1, 1, 1, NONE), x -> x.count(4), 4);
        restores("the law that was repealed by a bill", x -> x.propose(3, 1, 1, 0), x -> x.law(0, 4), NONE);
        restores("by what it was repealed", x -> x.propose(3, 1, 1, 0), x -> x.law(0, 6), NONE);
        restores("the law that was repealed by decree", x -> x.repeal(0), x -> x.law(0, 4), NONE);
        restores("the session", x -> x.endSession(), x -> x.count(3), 2);
        restores("bills that failed", Checks::readsAFailure, x -> x.count(11), 2);
        answers("22 80 laws saved, restored over none", Checks::fresh, x -> {
            makeLaws(x, 80);
            x.save(0);
            for (int i = 0; i < 5; i++) {
                x.undo();
            }
            x.restore(0);
            return x.law(79, 5);
        }, 78);
        answers("22 no law saved, restored over 80", Checks::fresh, x -> {
            x.save(0);
            makeLaws(x, 80);
            x.restore(0);
            return x.law(0, 0);
        }, NO_SUCH);
    }

    private static void restores(String what, ToIntFunction<RepealedLaws> change, ToIntFunction<RepealedLaws> question,
            int want) {
        answers("22 as it was saved: " + what, Checks::busy, x -> {
            due("22 a change: " + what, change.applyAsInt(x) >= 0 ? 1 : 0, 1);
            x.restore(0);
            return question.applyAsInt(x);
        }, want);
    }

    /** Laws whose numbers other laws have taken come back as they were. */
    private static void otherLaws() {
        int[] one = {9, 5, 2, 1, NONE, 0, NONE};
        int[] two = {4, 1, 1, 0, 0, NONE, NONE};
        for (int i = 0; i < one.length; i++) {
            int what = i;
            answers("22 as it was saved, other laws there now: law 1, " + i, RepealedLawsEdgesOfStates::twoCodes, x -> {
                x.restore(0);
                return x.law(1, what);
            }, one[what]);
            answers("22 as it was saved, other laws there now: the other slot, " + i,
                    RepealedLawsEdgesOfStates::twoCodes, x -> {
                x.restore(0);
                x.restore(1);
                return x.law(1, what);
            }, two[what]);
            answers("20 as it was before, other laws restored: law 1, " + i, RepealedLawsEdgesOfStates::twoCodes, x -> {
                x.restore(0);
                x.undo();
                return x.law(1, what);
            }, two[what]);
        }
    }

    /** In slot 0 and in slot 1 (and now): two laws, of which the second is unlike in all that is told of it. */
    private static RepealedLaws twoCodes() {
        RepealedLaws x = new RepealedLaws();
        x.save(1);
        x.propose(9, 0, 0, NONE);
        x.endSession();
        x.propose(9, 5, 2, 0);
        x.save(0);
        x.restore(1);
        x.propose(3, 3, 0, NONE);
        x.propose(4, 1, 1, NONE);
        x.repeal(1);
        x.save(1);
        return x;
    }
}
