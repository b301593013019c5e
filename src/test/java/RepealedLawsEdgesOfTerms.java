/** The boundary cases that the document's head "Terms" names, each a test of its own. */
public final class RepealedLawsEdgesOfTerms extends Checks {
    public static void main(String[] args) {
        conventions();
        settings();
        laws();
        alikeLaws();
        contradictions();
        whatHolds();
        councillors();
        joys();
        reasonOne();
        reasonTwo();
        reasonThree();
        reasonFour();
        reasonsFiveAndSix();
        reasonSeven();
        orderOfReasons();
        bills();
        emptyAndFullTexts();
        signsOfTexts();
        ends();
        end();
    }

    private static void conventions() {
        answers("everything is numbered from 0: sessions", Checks::fresh, x -> x.count(3), 0);
        answers("everything is numbered from 0: laws", Checks::fresh, x -> x.propose(1, 1, 1, NONE), 0);
        answers("everything is numbered from 0: councillors", Checks::busy, x -> x.councillor(0, 0), 1);
        answers("everything is numbered from 0: topics", Checks::busy, x -> x.topic(0, 0), 1);
        answers("everything is numbered from 0: settings", Checks::busy, x -> x.set(0, 5), 2);
        answers("everything is numbered from 0: slots", Checks::fresh, x -> x.save(0), 0);
        answers("everything is numbered from 0: characters", Checks::fresh, x -> {
            x.put('x');
            return x.fault();
        }, 0);
        answers("NONE only if no error applies: law(law, 4)", Checks::oneLaw, x -> x.law(0, 4), NONE);
        answers("NONE only if no error applies: law(no law, 4)", Checks::oneLaw, x -> x.law(1, 4), NO_SUCH);
        answers("NONE only if no error applies: topic(topic, 2)", Checks::fresh, x -> x.topic(5, 2), NONE);
        answers("NONE only if no error applies: topic(no topic, 2)", Checks::fresh, x -> x.topic(6, 2), NO_SUCH);
        answers("NONE only if no error applies: bestRepeal", Checks::fresh, x -> x.bestRepeal(9, 0, 0), NONE);
        answers("NONE only if no error applies: bestRepeal", Checks::fresh, x -> x.bestRepeal(10, 0, 0), BAD_VALUE);
        answers("NONE only if no error applies: longestBill", Checks::eightyAndNoBill,
                x -> x.longestBill(0, 0), TOO_MANY);
        answers("NONE only if no error applies: bestBill", Checks::eightyAndNoBill, x -> x.bestBill(), TOO_MANY);
        answers("NONE is not an error: a call that answers it is taken", Checks::fresh, x -> {
            x.put(characters("10f"));
            return x.fault();
        }, NONE);
    }

    private static void settings() {
        int[] least = {1, 1, 0};
        int[] greatest = {5, 16, 9};
        int[] first = {3, 10, 2};
        String[] names = {"YEAS (1 to 5; 3)", "ROOM (1 to 16; 10)", "MEMORY (0 to 9; 2)"};
        for (int i = 0; i < 3; i++) {
            int setting = i;
            answers(names[i] + ": the first value", Checks::fresh, x -> x.count(setting), first[i]);
            answers(names[i] + ": the first value", Checks::fresh, x -> x.set(setting, least[setting]), first[i]);
            for (int j = least[i]; j <= greatest[i]; j++) {
                int value = j;
                answers(names[i] + ": " + value, Checks::fresh, x -> {
                    x.set(setting, value);
                    return x.count(setting);
                }, value);
            }
            for (int value : new int[] {LEAST, NONE, -1, least[i] - 1, greatest[i] + 1, 256 + least[i], GREATEST}) {
                refuses(names[i] + ": " + value, Checks::busy, x -> x.set(setting, value), BAD_VALUE);
            }
        }
    }

    private static void laws() {
        answers("a length, 1 to 9: 1", Checks::fresh, x -> newLaw(x, 1, 0, 0, 0), 1);
        answers("a length, 1 to 9: 9", Checks::fresh, x -> newLaw(x, 9, 0, 0, 0), 9);
        refuses("a length, 1 to 9: 0", Checks::busy, x -> x.propose(0, 1, 1, NONE), BAD_VALUE);
        refuses("a length, 1 to 9: 10", Checks::busy, x -> x.propose(10, 1, 1, NONE), BAD_VALUE);
        answers("a topic, 0 to 5: 0", Checks::fresh, x -> newLaw(x, 1, 0, 0, 1), 0);
        answers("a topic, 0 to 5: 5", Checks::fresh, x -> newLaw(x, 1, 5, 0, 1), 5);
        refuses("a topic, 0 to 5: -1", Checks::busy, x -> x.propose(1, -1, 1, NONE), NO_SUCH);
        refuses("a topic, 0 to 5: 6", Checks::busy, x -> x.propose(1, 6, 1, NONE), NO_SUCH);
        answers("a stance, 0 it forbids", Checks::fresh, x -> newLaw(x, 1, 0, 0, 2), 0);
        answers("a stance, 2 it demands", Checks::fresh, x -> newLaw(x, 1, 0, 2, 2), 2);
        refuses("a stance: -1", Checks::busy, x -> x.propose(1, 1, -1, NONE), BAD_VALUE);
        refuses("a stance: 3, which a wish may be", Checks::busy, x -> x.propose(1, 1, 3, NONE), BAD_VALUE);
        answers("numbers from 0 in the order in which they were made", Checks::oneLaw, x -> {
            x.repeal(0);
            return x.propose(1, 0, 0, NONE);
        }, 1);
        answers("80 at most: the last number", () -> made(79), x -> x.propose(1, 0, 1, 78), 79);
        refuses("80 at most: one more", Checks::eighty, x -> x.propose(1, 0, 0, 79), TOO_MANY);
        answers("80 at most: those that were repealed count, too", Checks::eighty, x -> {
            x.repeal(79);
            return x.propose(1, 0, 0, NONE);
        }, TOO_MANY);
        answers("in force, or was repealed in some session: in force", Checks::oneLaw, x -> x.law(0, 4), NONE);
        answers("in force, or was repealed in some session: 0", Checks::oneLaw, x -> {
            x.repeal(0);
            return x.law(0, 4);
        }, 0);
    }

    private static int newLaw(RepealedLaws x, int length, int topic, int stance, int what) {
        return x.law(x.propose(length, topic, stance, NONE), what);
    }

    private static void alikeLaws() {
        answers("alike: length, topic and stance", Checks::oneLaw, x -> x.why(3, 0, 0, NONE), 1);
        answers("alike: not with another length", Checks::oneLaw, x -> x.why(4, 0, 0, NONE), 0);
        answers("alike: not with another topic", Checks::oneLaw, x -> x.why(3, 1, 0, 0), 0);
        answers("alike: not with another stance", Checks::oneLaw, x -> x.why(3, 0, 1, 0), 0);
    }

    private static void contradictions() {
        answers("contradict: unlike stances, 0 and 1", Checks::oneLaw, x -> contradictedBy(x, 0, 1), 1);
        answers("contradict: unlike stances, 0 and 2", Checks::oneLaw, x -> contradictedBy(x, 0, 2), 1);
        answers("contradict: not with the same stance", Checks::oneLaw, x -> contradictedBy(x, 0, 0), 0);
        answers("contradict: not in another topic", Checks::oneLaw, x -> contradictedBy(x, 1, 1), 0);
        answers("contradict: both in force, not the first", Checks::oneLaw, x -> {
            x.propose(4, 0, 1, NONE);
            x.repeal(0);
            return x.law(0, 7) + x.law(1, 7) + x.count(8) + x.count(9) + x.topic(0, 3);
        }, 0);
        answers("contradict: both in force, not the second", Checks::oneLaw, x -> {
            x.propose(4, 0, 1, NONE);
            x.repeal(1);
            return x.law(0, 7) + x.law(1, 7) + x.count(8) + x.count(9) + x.topic(0, 3);
        }, 0);
    }

    /** How many laws the law 0 contradicts with one more law in force, of 4 words. */
    private static int contradictedBy(RepealedLaws x, int topic, int stance) {
        x.propose(4, topic, stance, NONE);
        return x.law(0, 7);
    }

    private static void whatHolds() {
        answers("nothing holds without a law", Checks::fresh, x -> x.topic(0, 1), NONE);
        answers("nothing holds without a law in force", Checks::oneLaw, x -> {
            x.repeal(0);
            return x.topic(0, 1);
        }, NONE);
        answers("nothing holds without a law in this topic", Checks::oneLaw, x -> x.topic(1, 1), NONE);
        answers("what holds: a stance 0 holds, too", Checks::oneLaw, x -> x.topic(0, 1), 0);
        answers("what holds: the longest, made first", Checks::oneLaw, x -> {
            x.propose(2, 0, 1, NONE);
            return x.topic(0, 1);
        }, 0);
        answers("what holds: the longest, made last", Checks::oneLaw, x -> {
            x.propose(4, 0, 1, NONE);
            return x.topic(0, 1);
        }, 1);
        answers("what holds: not a longer one in another topic", Checks::oneLaw, x -> {
            x.propose(9, 1, 1, NONE);
            return x.topic(0, 1);
        }, 0);
        answers("what holds: not a longer one that was repealed", Checks::oneLaw, x -> {
            x.propose(4, 0, 1, NONE);
            x.repeal(1);
            return x.topic(0, 1);
        }, 0);
        answers("what holds: of 1 word", Checks::fresh, x -> {
            x.propose(1, 5, 2, NONE);
            return x.topic(5, 1);
        }, 2);
    }

    private static void councillors() {
        answers("councillors, 0 to 4: 4", Checks::fresh, x -> x.wish(4, 0, 0), 3);
        refuses("councillors, 0 to 4: 5", Checks::busy, x -> x.wish(5, 0, 0), NO_SUCH);
        refuses("councillors, 0 to 4: -1", Checks::busy, x -> x.wish(-1, 0, 0), NO_SUCH);
        for (int wish = 0; wish <= 3; wish++) {
            int it = wish;
            answers("0 to 2 as the stances, or 3: " + it, Checks::fresh, x -> {
                x.wish(4, 5, 0);
                x.wish(4, 5, it);
                return x.councillor(4, 5);
            }, it);
        }
        for (int councillor = 0; councillor < 5; councillor++) {
            for (int topic = 0; topic < 6; topic++) {
                int who = councillor;
                int where = topic;
                answers("no wish as all at first: " + who + " in " + where, Checks::fresh,
                        x -> x.councillor(who, where), 3);
            }
        }
    }

    /** All that a councillor may wish in the topic of the bill and in that of the law that it would repeal. */
    private static void joys() {
        String[] wishes = {"no wish", "its stance", "another stance"};
        int[] joy = {0, 1, -1};
        for (int councillor = 0; councillor < 5; councillor++) {
            for (int atBill = 0; atBill < 3; atBill++) {
                int who = councillor;
                int ofBill = atBill;
                boolean even = who % 2 == 0;
                answers("joy of " + who + ": " + wishes[atBill] + " at a bill without a law", Checks::fresh, x -> {
                    wishAs(x, who, 2, ofBill);
                    return x.votes(4, 2, 1, NONE) >> who & 1;
                }, isVote(joy[atBill], even));
                for (int atLaw = 0; atLaw < 3; atLaw++) {
                    int ofLaw = atLaw;
                    answers("joy of " + who + ": " + wishes[atBill] + ", of the law " + wishes[atLaw], Checks::fresh, x -> {
                        x.propose(4, 3, 1, NONE);
                        wishAs(x, who, 2, ofBill);
                        wishAs(x, who, 3, ofLaw);
                        return x.votes(4, 2, 1, 0) >> who & 1;
                    }, isVote(joy[atBill] - joy[atLaw], even));
                }
            }
        }
        answers("joy: in the topic of the bill alone", Checks::fresh, x -> {
            x.wish(1, 3, 1);
            return x.votes(4, 2, 1, NONE);
        }, 1 | 4 | 16);
        answers("joy: in the one topic of both, another stance there", Checks::oneLaw, x -> {
            x.wish(1, 0, 1);
            return x.votes(3, 0, 1, 0) >> 1 & 1;
        }, 1);
        answers("joy: in the one topic of both, neither stance wished", Checks::oneLaw, x -> {
            x.wish(1, 0, 2);
            x.wish(2, 0, 2);
            return x.votes(3, 0, 1, 0);
        }, 1 | 4 | 16);
    }

    /** Wishes in a topic: 0 none, 1 the stance 1, 2 another stance. */
    private static void wishAs(RepealedLaws x, int councillor, int topic, int kind) {
        x.wish(councillor, topic, kind == 0 ? 3 : kind);
    }

    private static int isVote(int joy, boolean even) {
        return joy > 0 || joy == 0 && even ? 1 : 0;
    }

    private static void reasonOne() {
        answers("reason 1: a law in force is like it", Checks::oneLaw, x -> x.why(3, 0, 0, NONE), 1);
        answers("reason 1: not a law that was repealed", Checks::oneLaw, x -> {
            x.set(MEMORY, 0);
            x.repeal(0);
            return x.why(3, 0, 0, NONE);
        }, 0);
        answers("reason 1: other than the one that it would repeal", Checks::oneLaw, x -> x.why(3, 0, 0, 0), 2);
        answers("reason 1: it names another law", Checks::oneLaw, x -> {
            x.propose(4, 1, 0, NONE);
            return x.why(3, 0, 0, 1);
        }, 1);
    }

    private static void reasonTwo() {
        answers("reason 2: in force", Checks::oneLaw, x -> x.why(3, 0, 0, 0), 2);
        answers("reason 2: not in force", Checks::oneLaw, x -> {
            x.set(MEMORY, 0);
            x.repeal(0);
            return x.why(3, 0, 0, 0);
        }, 2);
        answers("reason 2: not if only the length is another", Checks::oneLaw, x -> x.why(4, 0, 0, 0), 4);
        answers("reason 2: not if only the topic is another", Checks::oneLaw, x -> x.why(3, 5, 0, 0), 0);
        answers("reason 2: not if only the stance is another", Checks::oneLaw, x -> x.why(3, 0, 2, 0), 0);
    }

    private static void reasonThree() {
        for (int memory = 0; memory <= 9; memory++) {
            int sessions = memory;
            answers("reason 3: MEMORY " + memory + ", so many sessions ago", Checks::oneLaw,
                    x -> whyRepealedAgo(x, sessions, sessions), 0);
            answers("reason 3: MEMORY " + memory + ", one session more", Checks::oneLaw,
                    x -> whyRepealedAgo(x, sessions, sessions + 1), 0);
            if (memory > 0) {
                answers("reason 3: MEMORY " + memory + ", one session fewer", Checks::oneLaw,
                        x -> whyRepealedAgo(x, sessions, sessions - 1), 3);
                answers("reason 3: MEMORY " + memory + ", in this session: 0", Checks::oneLaw,
                        x -> whyRepealedAgo(x, sessions, 0), 3);
            }
        }
        answers("reason 3: sessions since it was repealed, not since it was made", Checks::oneLaw, x -> {
            x.endSession();
            x.endSession();
            x.repeal(0);
            x.endSession();
            return x.why(3, 0, 0, NONE);
        }, 3);
        answers("reason 3: repealed by a bill", Checks::oneLaw, x -> {
            x.propose(3, 1, 0, 0);
            return x.why(3, 0, 0, 1);
        }, 3);
        answers("reason 3: the MEMORY of now", Checks::oneLaw, x -> {
            x.repeal(0);
            x.endSession();
            x.endSession();
            x.set(MEMORY, 3);
            return x.why(3, 0, 0, NONE);
        }, 3);
        answers("reason 3: not of another length", Checks::oneLaw, x -> whyOnceRepealed(x, 4, 0, 0), 0);
        answers("reason 3: not of another topic", Checks::oneLaw, x -> whyOnceRepealed(x, 3, 1, 0), 0);
        answers("reason 3: not of another stance", Checks::oneLaw, x -> whyOnceRepealed(x, 3, 0, 1), 0);
        answers("reason 3: of two laws like it, the first long ago", Checks::oneLaw, x -> {
            x.repeal(0);
            x.endSession();
            x.endSession();
            x.propose(3, 0, 0, NONE);
            x.repeal(1);
            return x.why(3, 0, 0, NONE);
        }, 3);
    }

    private static int whyRepealedAgo(RepealedLaws x, int memory, int sessions) {
        x.set(MEMORY, memory);
        x.repeal(0);
        for (int i = 0; i < sessions; i++) {
            x.endSession();
        }
        return x.why(3, 0, 0, NONE);
    }

    private static int whyOnceRepealed(RepealedLaws x, int length, int topic, int stance) {
        x.repeal(0);
        return x.why(length, topic, stance, NONE);
    }

    private static void reasonFour() {
        answers("reason 4: not in force", Checks::oneLaw, x -> {
            x.repeal(0);
            return x.why(3, 1, 0, 0);
        }, 4);
        answers("reason 4: in force, one word less", Checks::oneLaw, x -> x.why(2, 0, 0, 0), 4);
        answers("reason 4: in force, one word more", Checks::oneLaw, x -> x.why(4, 0, 0, 0), 4);
        answers("reason 4: in force, of its length", Checks::oneLaw, x -> x.why(3, 1, 0, 0), 0);
    }

    private static void reasonsFiveAndSix() {
        answers("reason 5: some law in force has its length", Checks::oneLaw, x -> x.why(3, 1, 1, NONE), 5);
        answers("reason 5: one word less", Checks::oneLaw, x -> x.why(2, 1, 1, NONE), 0);
        answers("reason 5: one word more", Checks::oneLaw, x -> x.why(4, 1, 1, NONE), 0);
        answers("reason 5: not a law that was repealed", Checks::oneLaw, x -> {
            x.repeal(0);
            return x.why(3, 1, 1, NONE);
        }, 0);
        answers("reason 5: not if it names it", Checks::oneLaw, x -> x.why(3, 1, 1, 0), 0);
        for (int laws = 0; laws <= 8; laws++) {
            int inForce = laws;
            answers("reason 6: a law fewer than ROOM, " + laws, Checks::fresh, x -> whyInRoom(x, inForce, inForce + 1), 0);
            if (laws > 0) {
                answers("reason 6: ROOM laws, " + laws, Checks::fresh, x -> whyInRoom(x, inForce, inForce), 6);
            }
            if (laws > 1) {
                answers("reason 6: a law more than ROOM, " + laws, Checks::fresh,
                        x -> whyInRoom(x, inForce, inForce - 1), 6);
            }
        }
        answers("reason 6: laws that were repealed take no room", Checks::oneLaw, x -> {
            x.set(ROOM, 1);
            x.repeal(0);
            return x.why(4, 0, 0, NONE);
        }, 0);
        answers("reason 6: not if it names a law", Checks::oneLaw, x -> {
            x.set(ROOM, 1);
            return x.why(3, 1, 0, 0);
        }, 0);
        answers("reason 6: 9 laws and ROOM 9, but all lengths are taken", Checks::nineLaws, x -> {
            x.set(ROOM, 9);
            return x.why(9, 5, 0, NONE);
        }, 5);
    }

    /** Why a bill of 9 words fails with so many shorter laws in force. */
    private static int whyInRoom(RepealedLaws x, int laws, int room) {
        for (int length = 1; length <= laws; length++) {
            x.propose(length, 0, 0, NONE);
        }
        x.set(ROOM, room);
        return x.why(9, 0, 0, NONE);
    }

    private static void reasonSeven() {
        for (int yeas = 1; yeas <= 5; yeas++) {
            int votes = yeas;
            answers("reason 7: YEAS councillors, " + yeas, Checks::fresh, x -> whyWithVotes(x, votes, votes), 0);
            answers("reason 7: one fewer than YEAS, " + yeas, Checks::fresh, x -> whyWithVotes(x, votes - 1, votes), 7);
            if (yeas < 5) {
                answers("reason 7: one more than YEAS, " + yeas, Checks::fresh,
                        x -> whyWithVotes(x, votes + 1, votes), 0);
            }
        }
        answers("reason 7: the law that it would repeal counts", Checks::oneLaw, x -> {
            x.wish(0, 0, 0);
            return x.why(3, 1, 1, 0);
        }, 7);
    }

    private static int whyWithVotes(RepealedLaws x, int votes, int yeas) {
        x.set(YEAS, yeas);
        for (int councillor = 0; councillor < 5; councillor++) {
            x.wish(councillor, 3, councillor < votes ? 2 : 0);
        }
        return x.why(6, 3, 2, NONE);
    }

    /** Of two reasons the first one is told. */
    private static void orderOfReasons() {
        answers("1 before 2: names a repealed one like it", Checks::oneLaw, x -> {
            x.set(MEMORY, 0);
            x.repeal(0);
            x.propose(3, 0, 0, NONE);
            return x.why(3, 0, 0, 0);
        }, 1);
        answers("1 before 3", Checks::oneLaw, x -> {
            x.set(MEMORY, 0);
            x.repeal(0);
            x.propose(3, 0, 0, NONE);
            x.set(MEMORY, 9);
            return x.why(3, 0, 0, NONE);
        }, 1);
        answers("1 before 4", Checks::oneLaw, x -> {
            x.propose(4, 0, 0, NONE);
            return x.why(3, 0, 0, 1);
        }, 1);
        answers("1 before 5", Checks::oneLaw, x -> x.why(3, 0, 0, NONE), 1);
        answers("2 before 3 and 4", Checks::oneLaw, x -> {
            x.repeal(0);
            return x.why(3, 0, 0, 0);
        }, 2);
        answers("2 before 7", Checks::oneLaw, x -> {
            x.set(YEAS, 5);
            return x.why(3, 0, 0, 0);
        }, 2);
        answers("3 before 4", Checks::oneLaw, x -> {
            x.propose(4, 0, 0, NONE);
            x.repeal(0);
            return x.why(3, 0, 0, 1);
        }, 3);
        answers("3 before 5", Checks::oneLaw, x -> {
            x.propose(3, 1, 0, 0);
            return x.why(3, 0, 0, NONE);
        }, 3);
        answers("3 before 6", Checks::oneLaw, x -> {
            x.propose(4, 1, 0, NONE);
            x.repeal(0);
            x.set(ROOM, 1);
            return x.why(3, 0, 0, NONE);
        }, 3);
        answers("3 before 7", Checks::oneLaw, x -> {
            x.repeal(0);
            x.set(YEAS, 5);
            return x.why(3, 0, 0, NONE);
        }, 3);
        answers("4 before 7", Checks::oneLaw, x -> {
            x.set(YEAS, 5);
            return x.why(4, 0, 0, 0);
        }, 4);
        answers("5 before 6", Checks::oneLaw, x -> {
            x.set(ROOM, 1);
            return x.why(3, 1, 1, NONE);
        }, 5);
        answers("5 before 7", Checks::oneLaw, x -> {
            x.set(YEAS, 5);
            return x.why(3, 1, 1, NONE);
        }, 5);
        answers("6 before 7", Checks::oneLaw, x -> {
            x.set(ROOM, 1);
            x.set(YEAS, 5);
            return x.why(4, 1, 1, NONE);
        }, 6);
    }

    private static void bills() {
        answers("it passes: the law that it names is repealed", Checks::oneLaw, x -> {
            x.propose(3, 1, 0, 0);
            return x.law(0, 6);
        }, 1);
        answers("it passes: the bill becomes a law, in force", Checks::oneLaw, x -> {
            x.propose(3, 1, 0, 0);
            return x.law(1, 4);
        }, NONE);
        answers("it passes: made in this session", Checks::oneLaw, x -> {
            x.endSession();
            return x.law(x.propose(3, 1, 0, 0), 3);
        }, 1);
        answers("it passes: repealed in this session", Checks::oneLaw, x -> {
            x.endSession();
            x.propose(3, 1, 0, 0);
            return x.law(0, 4);
        }, 1);
        answers("it names none: none is repealed", Checks::oneLaw, x -> {
            x.propose(4, 1, 0, NONE);
            return x.count(6);
        }, 0);
        refuses("it fails: nothing is made or repealed", Checks::busy, x -> x.propose(3, 0, 0, 0), NOT_POSSIBLE);
    }

    private static void emptyAndFullTexts() {
        answers("the fault: also if it is empty, the length", Checks::fresh, x -> x.fault(), 0);
        answers("at most 60 characters: 60", Checks::fresh, x -> {
            type(x, "10f10a".repeat(10));
            return x.count(12);
        }, 60);
        refuses("at most 60 characters: 61", Checks::fullPad, x -> x.put('!'), TOO_MANY);
        answers("at most 60 characters: one bill with them all", Checks::fullPad, x -> x.fault(), NONE);
        hasFault("10f20a30d", NONE);
        hasFault("10f", NONE);
        hasFault("1", 1);
        hasFault("10", 2);
        hasFault("10f1", 4);
        hasFault("10f10", 5);
        hasFault("10f!1", 5);
        hasFault("10f!10", 6);
        hasFault("10f10a".repeat(9) + "10f1", 58);
        hasFault("10f10a".repeat(9) + "10f10", 59);
        hasFault("10f!".repeat(3) + "10f10a".repeat(8), NONE);
        hasFault("10f!".repeat(14) + "10f1", 60);
        hasFault("10f!".repeat(15), NONE);
        hasFault("10f10a".repeat(9) + "10f10x", 59);
        hasFault("10f!".repeat(14) + "10fx", 59);
    }

    private static void signsOfTexts() {
        hasFault("1", 1);
        hasFault("9", 1);
        hasFault("0", 0);
        hasFault(":", 0);
        hasFault("/", 0);
        hasFault("10", 2);
        hasFault("15", 2);
        hasFault("16", 1);
        hasFault("1/", 1);
        hasFault("10f", NONE);
        hasFault("10a", NONE);
        hasFault("10d", NONE);
        for (String sign : new String[] {"e", "g", "b", "`", "c", "F", "A", "D", "0", "1", "2", "~"}) {
            hasFault("10" + sign, 2);
        }
        for (String sign : new String[] {"f", "a", "d", "~", "x"}) {
            hasFault(sign, 0);
            hasFault("1" + sign, 1);
            hasFault("10f" + sign, 3);
            hasFault("10f!" + sign, 4);
        }
        hasFault("10f0", 3);
        hasFault("10f!0", 4);
        hasFault("x0x", 0);
        hasFault("1xx", 1);
        answers("a stance: f is 0", Checks::fresh, x -> stanceRead(x, "10f"), 0);
        answers("a stance: a is 1", Checks::fresh, x -> stanceRead(x, "10a"), 1);
        answers("a stance: d is 2", Checks::fresh, x -> stanceRead(x, "10d"), 2);
        answers("a length: a digit 9", Checks::fresh, x -> {
            stanceRead(x, "95d");
            return x.law(0, 0);
        }, 9);
        answers("a topic: a digit 5", Checks::fresh, x -> {
            stanceRead(x, "95d");
            return x.law(0, 1);
        }, 5);
    }

    private static int stanceRead(RepealedLaws x, String text) {
        type(x, text);
        x.read();
        return x.law(0, 2);
    }

    private static void ends() {
        hasFault("!", 0);
        hasFault("1!", 1);
        hasFault("10!", 2);
        hasFault("10f!", NONE);
        hasFault("10f!!", 4);
        hasFault("10f!10f", NONE);
        hasFault("10f10f!!", 7);
        answers("with \"!\" a session ends behind the bill", Checks::fresh, x -> {
            type(x, "10f!20f");
            x.read();
            return 10 * x.law(0, 3) + x.law(1, 3);
        }, 1);
        answers("without \"!\" none ends", Checks::fresh, x -> {
            type(x, "10f20f");
            x.read();
            return x.count(3);
        }, 0);
        answers("with \"!\" a session ends behind a bill that fails, too", Checks::oneLaw, x -> {
            type(x, "30f!");
            x.read();
            return x.count(3);
        }, 1);
        answers("15 sessions end in a full pad", Checks::fresh, x -> {
            type(x, "10f!".repeat(15));
            x.read();
            return x.count(3);
        }, 15);
    }

    private static void hasFault(String text, int fault) {
        answersOnly("the fault of \"" + text + "\"", () -> {
            RepealedLaws x = new RepealedLaws();
            type(x, text);
            return x;
        }, x -> x.fault(), fault);
    }
}
