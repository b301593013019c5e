import java.util.function.IntSupplier;

/** The promises 1 to 22, one method each: ordinary inputs, edges, and errors in their order. */
public final class RepealedLawsPromises extends Checks {
    public static void main(String[] args) {
        promise1();
        promise2();
        promise3();
        promise4();
        promise4Repeals();
        promise4TooMany();
        promise5();
        promise6();
        promise7();
        promise7Best();
        promise7Full();
        promise8();
        promise8Held();
        promise9();
        promise10();
        promise11();
        promise11Pairs();
        promise12();
        promise12Order();
        promise12Memory();
        promise12Restored();
        promise13();
        promise13Joy();
        promise14();
        promise15();
        promise16();
        promise17();
        promise18();
        promise19();
        promise20();
        promise20EachChange();
        promise20NoChange();
        promise21();
        promise22();
        promise22OtherLaws();
        strangeNumbers();
        exampleOfTheReadme();
        end();
    }

    // ---- 1: a new object

    private static void promise1() {
        RepealedLaws x = new RepealedLaws();
        due("1 yeas", x.count(0), 3);
        due("1 room", x.count(1), 10);
        due("1 memory", x.count(2), 2);
        for (int what = 3; what <= 13; what++) {
            due("1 count " + what, x.count(what), 0);
        }
        for (int councillor = 0; councillor < 5; councillor++) {
            for (int topic = 0; topic < 6; topic++) {
                due("1 wish", x.councillor(councillor, topic), 3);
            }
            due("1 topics as wished", x.councillor(councillor, 6), 0);
            due("1 laws as wished", x.councillor(councillor, 7), 0);
        }
        for (int topic = 0; topic < 6; topic++) {
            due("1 laws in the topic", x.topic(topic, 0), 0);
            due("1 what holds", x.topic(topic, 1), NONE);
            due("1 by which law", x.topic(topic, 2), NONE);
            due("1 pairs", x.topic(topic, 3), 0);
            due("1 content", x.topic(topic, 4), 0);
        }
        due("1 no law", x.law(0, 0), NO_SUCH);
        due("1 no slot 0", x.restore(0), NOT_POSSIBLE);
        due("1 no slot 1", x.restore(1), NOT_POSSIBLE);
        due("1 no undo", x.undo(), NOT_POSSIBLE);
        RepealedLaws other = new RepealedLaws();
        x.set(YEAS, 1);
        x.wish(0, 0, 0);
        x.propose(1, 0, 0, NONE);
        due("1 objects share nothing", other.count(0) + other.count(4) + other.councillor(0, 0), 6);
    }

    // ---- 2: set

    private static void promise2() {
        int[] first = {3, 10, 2};
        int[] least = {1, 1, 0};
        int[] greatest = {5, 16, 9};
        for (int setting = 0; setting < 3; setting++) {
            RepealedLaws x = new RepealedLaws();
            int it = setting;
            due("2 first", x.set(it, least[it]), first[it]);
            due("2 previous", x.set(it, greatest[it]), least[it]);
            due("2 now", x.count(it), greatest[it]);
            due("2 the same", x.set(it, greatest[it]), greatest[it]);
            due("2 changes", x.count(13), 3);
            for (int other = 0; other < 3; other++) {
                due("2 others stay", x.count(other), other == it ? greatest[it] : first[other]);
            }
            refused(x, "2 below", () -> x.set(it, least[it] - 1), BAD_VALUE);
            refused(x, "2 above", () -> x.set(it, greatest[it] + 1), BAD_VALUE);
            refused(x, "2 far below", () -> x.set(it, LEAST), BAD_VALUE);
            refused(x, "2 far above", () -> x.set(it, GREATEST), BAD_VALUE);
        }
        RepealedLaws x = new RepealedLaws();
        refused(x, "2 setting 3", () -> x.set(3, 3), BAD_VALUE);
        refused(x, "2 setting -1", () -> x.set(-1, 3), BAD_VALUE);
    }

    // ---- 3: wish

    private static void promise3() {
        RepealedLaws x = new RepealedLaws();
        for (int councillor = 0; councillor < 5; councillor++) {
            for (int topic = 0; topic < 6; topic++) {
                due("3 first", x.wish(councillor, topic, (councillor + topic) % 4), 3);
            }
        }
        for (int councillor = 0; councillor < 5; councillor++) {
            for (int topic = 0; topic < 6; topic++) {
                due("3 kept", x.councillor(councillor, topic), (councillor + topic) % 4);
            }
        }
        due("3 previous", x.wish(4, 5, 3), 1);
        due("3 none then", x.wish(4, 5, 2), 3);
        due("3 the same", x.wish(4, 5, 2), 2);
        refused(x, "3 councillor 5", () -> x.wish(5, 0, 0), NO_SUCH);
        refused(x, "3 councillor -1", () -> x.wish(-1, 0, 0), NO_SUCH);
        refused(x, "3 topic 6", () -> x.wish(0, 6, 0), NO_SUCH);
        refused(x, "3 topic -1", () -> x.wish(1, -1, 0), NO_SUCH);
        refused(x, "3 wish 4", () -> x.wish(0, 0, 4), BAD_VALUE);
        refused(x, "3 wish -1", () -> x.wish(0, 0, -1), BAD_VALUE);
        refused(x, "3 wish NONE", () -> x.wish(0, 0, NONE), BAD_VALUE);
        refused(x, "3 councillor before wish", () -> x.wish(5, 0, 4), NO_SUCH);
        refused(x, "3 topic before wish", () -> x.wish(0, 6, 4), NO_SUCH);
    }

    // ---- 4: propose

    private static void promise4() {
        RepealedLaws x = new RepealedLaws();
        due("4 law 0", x.propose(1, 0, 0, NONE), 0);
        due("4 law 1", x.propose(9, 5, 2, NONE), 1);
        due("4 in force", x.count(5), 2);
        due("4 changes", x.count(13), 2);
        refused(x, "4 topic 6", () -> x.propose(2, 6, 0, NONE), NO_SUCH);
        refused(x, "4 topic -1", () -> x.propose(2, -1, 0, NONE), NO_SUCH);
        refused(x, "4 law 2", () -> x.propose(1, 0, 1, 2), NO_SUCH);
        refused(x, "4 law -1", () -> x.propose(1, 0, 1, -1), NO_SUCH);
        refused(x, "4 law -7", () -> x.propose(1, 0, 1, -7), NO_SUCH);
        refused(x, "4 law 80", () -> x.propose(1, 0, 1, 80), NO_SUCH);
        refused(x, "4 length 0", () -> x.propose(0, 0, 0, NONE), BAD_VALUE);
        refused(x, "4 length 10", () -> x.propose(10, 0, 0, NONE), BAD_VALUE);
        refused(x, "4 stance 3", () -> x.propose(2, 0, 3, NONE), BAD_VALUE);
        refused(x, "4 stance -1", () -> x.propose(2, 0, -1, NONE), BAD_VALUE);
        refused(x, "4 topic before length", () -> x.propose(0, 6, 0, NONE), NO_SUCH);
        refused(x, "4 law before length", () -> x.propose(0, 0, 0, 2), NO_SUCH);
        refused(x, "4 law before stance", () -> x.propose(2, 0, 3, 2), NO_SUCH);
        refused(x, "4 fails", () -> x.propose(1, 0, 1, NONE), NOT_POSSIBLE);
        due("4 passes", x.propose(1, 0, 1, 0), 2);
    }

    private static void promise4Repeals() {
        RepealedLaws x = new RepealedLaws();
        x.propose(4, 1, 0, NONE);
        x.propose(5, 1, 1, NONE);
        x.endSession();
        due("4 names 0", x.propose(4, 2, 2, 0), 2);
        dueLaw("4 the repealed law", x, 0, 4, 1, 0, 0, 1, NONE, 2);
        dueLaw("4 the law that stays", x, 1, 5, 1, 1, 0, NONE, NONE, NONE);
        dueLaw("4 the new law", x, 2, 4, 2, 2, 1, NONE, 0, NONE);
        due("4 in force", x.count(5), 2);
        x.endSession();
        due("4 names 2", x.propose(4, 1, 1, 2), 3);
        dueLaw("4 the law between", x, 2, 4, 2, 2, 1, 2, 0, 3);
        dueLaw("4 the first law as before", x, 0, 4, 1, 0, 0, 1, NONE, 2);
    }

    private static void promise4TooMany() {
        RepealedLaws x = full();
        due("4 made", x.count(4), 80);
        refused(x, "4 too many", () -> x.propose(2, 0, 0, NONE), TOO_MANY);
        refused(x, "4 too many before failing", () -> x.propose(1, 0, 0, NONE), TOO_MANY);
        refused(x, "4 length before too many", () -> x.propose(10, 0, 0, NONE), BAD_VALUE);
        refused(x, "4 stance before too many", () -> x.propose(2, 0, 3, NONE), BAD_VALUE);
        refused(x, "4 law before too many", () -> x.propose(2, 0, 0, 80), NO_SUCH);
        refused(x, "4 topic before too many", () -> x.propose(2, 6, 0, NONE), NO_SUCH);
        x.undo();
        due("4 the last law", x.propose(2, 0, 0, NONE), 79);
        refused(x, "4 too many again", () -> x.propose(3, 0, 0, NONE), TOO_MANY);
    }

    // ---- 5: repeal

    private static void promise5() {
        RepealedLaws x = new RepealedLaws();
        x.propose(3, 0, 1, NONE);
        x.endSession();
        x.propose(4, 0, 1, NONE);
        x.endSession();
        x.endSession();
        due("5 for 3 sessions", x.repeal(0), 3);
        dueLaw("5 by decree", x, 0, 3, 0, 1, 0, 3, NONE, NONE);
        due("5 for 2 sessions", x.repeal(1), 2);
        due("5 in force", x.count(5), 0);
        due("5 repealed", x.count(6), 2);
        due("5 made", x.count(4), 2);
        x.propose(5, 0, 1, NONE);
        due("5 for no session", x.repeal(2), 0);
        refused(x, "5 again", () -> x.repeal(2), NOT_POSSIBLE);
        refused(x, "5 law 3", () -> x.repeal(3), NO_SUCH);
        refused(x, "5 law -1", () -> x.repeal(-1), NO_SUCH);
        refused(x, "5 NONE", () -> x.repeal(NONE), NO_SUCH);
        x.propose(6, 0, 1, NONE);
        x.propose(6, 0, 2, 3);
        refused(x, "5 repealed by a bill", () -> x.repeal(3), NOT_POSSIBLE);
    }

    // ---- 6: endSession

    private static void promise6() {
        RepealedLaws x = new RepealedLaws();
        due("6 none", x.endSession(), 0);
        due("6 session", x.count(3), 1);
        x.propose(1, 0, 0, NONE);
        x.propose(2, 0, 0, NONE);
        x.propose(2, 1, 0, 1);
        x.repeal(0);
        due("6 three made, one in force", x.endSession(), 3);
        due("6 none made since", x.endSession(), 0);
        due("6 session", x.count(3), 3);
        x.propose(3, 3, 0, NONE);
        x.undo();
        due("6 undone laws were not made", x.endSession(), 0);
        type(x, "44f55f!63f");
        x.read();
        due("6 made behind the end in read()", x.endSession(), 1);
        due("6 session", x.count(3), 6);
        RepealedLaws full = full();
        due("6 eighty in one session", full.endSession(), 80);
        due("6 none with 80 laws", full.endSession(), 0);
    }

    // ---- 7: read

    private static void promise7() {
        RepealedLaws x = new RepealedLaws();
        refused(x, "7 empty", x::read, BAD_TEXT);
        type(x, "11");
        refused(x, "7 too short", x::read, BAD_TEXT);
        type(x, "f");
        due("7 passes", x.read(), 1);
        dueLaw("7 the law", x, 0, 1, 1, 0, 0, NONE, NONE, NONE);
        due("7 pad is empty", x.count(12), 0);
        due("7 changes", x.count(13), 1);
        refused(x, "7 empty again", x::read, BAD_TEXT);
        type(x, "25d!25a95f!");
        due("7 three pass", x.read(), 3);
        dueLaw("7 demands", x, 1, 2, 5, 2, 0, 1, NONE, 2);
        dueLaw("7 allows", x, 2, 2, 5, 1, 1, NONE, 1, NONE);
        dueLaw("7 forbids", x, 3, 9, 5, 0, 1, NONE, NONE, NONE);
        due("7 sessions", x.count(3), 2);
        due("7 one change", x.count(13), 2);
        type(x, "95f!11f!");
        due("7 none passes", x.read(), 0);
        due("7 failed", x.count(11), 2);
        due("7 sessions end behind failed bills", x.count(3), 4);
        due("7 pad is empty", x.count(12), 0);
        due("7 still a change", x.count(13), 3);
        type(x, "10f60g");
        refused(x, "7 fault at the end", x::read, BAD_TEXT);
        due("7 pad is kept", x.count(12), 6);
    }

    private static void promise7Best() {
        RepealedLaws x = new RepealedLaws();
        x.set(YEAS, 5);
        for (int councillor = 0; councillor < 5; councillor++) {
            x.wish(councillor, 0, 1);
            x.wish(councillor, 1, councillor < 4 ? 2 : 0);
        }
        type(x, "10f10a10d11d21d20a20f!30a30a");
        due("7 only what all want", x.read(), 3);
        due("7 failed", x.count(11), 6);
        dueLaw("7 first", x, 0, 1, 0, 1, 0, NONE, NONE, NONE);
        dueLaw("7 second", x, 1, 2, 0, 1, 0, NONE, NONE, NONE);
        due("7 session", x.count(3), 1);
        RepealedLaws y = new RepealedLaws();
        y.set(MEMORY, 0);
        type(y, "10f10a10f10a10f10a10f10a10f10a10f10a10f10a10f10a10f10a10f10a");
        due("7 a full pad", y.count(12), 60);
        due("7 twenty bills", y.read(), 20);
        dueLaw("7 the last repeals the one before", y, 19, 1, 0, 1, 0, NONE, 18, NONE);
        due("7 in force", y.count(5), 1);
    }

    private static void promise7Full() {
        RepealedLaws x = full();
        due("7 no failure so far", x.count(11), 0);
        type(x, "23f!24f");
        due("7 none passes with 80 laws", x.read(), 0);
        due("7 they fail", x.count(11), 2);
        due("7 the session ends", x.count(3), 1);
        due("7 pad is empty", x.count(12), 0);
        x.undo();
        due("7 undone: failed", x.count(11), 0);
        for (int i = 0; i < 5; i++) {
            x.undo();
        }
        due("7 room for 5", x.count(4), 75);
        type(x, "10f10a10d10f30f40f!50f");
        due("7 five of seven", x.read(), 5);
        due("7 two failed", x.count(11), 2);
        due("7 made", x.count(4), 80);
    }

    // ---- 8: law

    private static void promise8() {
        RepealedLaws x = new RepealedLaws();
        x.endSession();
        x.propose(7, 4, 2, NONE);
        x.endSession();
        x.propose(7, 3, 1, 0);
        x.repeal(1);
        dueLaw("8 repealed by a bill", x, 0, 7, 4, 2, 1, 2, NONE, 1);
        dueLaw("8 repealed by decree", x, 1, 7, 3, 1, 2, 2, 0, NONE);
        refused(x, "8 law 2", () -> x.law(2, 0), NO_SUCH);
        refused(x, "8 law -1", () -> x.law(-1, 0), NO_SUCH);
        refused(x, "8 NONE", () -> x.law(NONE, 0), NO_SUCH);
        refused(x, "8 what 9", () -> x.law(0, 9), BAD_VALUE);
        refused(x, "8 what -1", () -> x.law(0, -1), BAD_VALUE);
        refused(x, "8 law before what", () -> x.law(2, 9), NO_SUCH);
    }

    private static void promise8Held() {
        RepealedLaws x = new RepealedLaws();
        x.propose(3, 0, 0, NONE);
        x.propose(5, 0, 1, NONE);
        x.propose(4, 0, 1, NONE);
        x.propose(9, 1, 2, NONE);
        int[] contradicts = {2, 1, 1, 0};
        int[] holds = {0, 1, 0, 1};
        for (int law = 0; law < 4; law++) {
            due("8 contradicts " + law, x.law(law, 7), contradicts[law]);
            due("8 holds by " + law, x.law(law, 8), holds[law]);
        }
        x.repeal(1);
        due("8 one less", x.law(0, 7), 1);
        due("8 a repealed law contradicts none", x.law(1, 7), 0);
        due("8 nothing holds by a repealed law", x.law(1, 8), 0);
        due("8 now the next longest", x.law(2, 8), 1);
        due("8 the shorter one not", x.law(0, 8), 0);
    }

    // ---- 9: topic

    private static void promise9() {
        RepealedLaws x = new RepealedLaws();
        x.propose(3, 2, 0, NONE);
        x.propose(5, 2, 1, NONE);
        x.propose(4, 2, 2, NONE);
        x.propose(1, 2, 1, NONE);
        x.propose(9, 3, 2, NONE);
        x.wish(0, 2, 1);
        x.wish(1, 2, 0);
        x.wish(2, 2, 1);
        x.wish(4, 2, 1);
        due("9 laws", x.topic(2, 0), 4);
        due("9 holds", x.topic(2, 1), 1);
        due("9 by", x.topic(2, 2), 1);
        due("9 pairs", x.topic(2, 3), 5);
        due("9 content", x.topic(2, 4), 3);
        due("9 none content", x.topic(3, 4), 0);
        due("9 the other topic", x.topic(3, 2), 4);
        x.repeal(1);
        due("9 laws", x.topic(2, 0), 3);
        due("9 holds", x.topic(2, 1), 2);
        due("9 by", x.topic(2, 2), 2);
        due("9 pairs", x.topic(2, 3), 3);
        due("9 content", x.topic(2, 4), 0);
        x.repeal(4);
        due("9 no law", x.topic(3, 0), 0);
        due("9 nothing holds", x.topic(3, 1), NONE);
        due("9 by none", x.topic(3, 2), NONE);
        due("9 nobody content", x.topic(3, 4), 0);
        refused(x, "9 topic 6", () -> x.topic(6, 0), NO_SUCH);
        refused(x, "9 topic -1", () -> x.topic(-1, 0), NO_SUCH);
        refused(x, "9 what 5", () -> x.topic(0, 5), BAD_VALUE);
        refused(x, "9 what -1", () -> x.topic(0, -1), BAD_VALUE);
        refused(x, "9 topic before what", () -> x.topic(6, 5), NO_SUCH);
    }

    // ---- 10: councillor

    private static void promise10() {
        RepealedLaws x = new RepealedLaws();
        x.propose(3, 0, 0, NONE);
        x.propose(5, 0, 1, NONE);
        x.propose(4, 5, 1, NONE);
        x.propose(2, 3, 2, NONE);
        x.propose(1, 3, 2, NONE);
        x.wish(3, 0, 1);
        x.wish(3, 5, 1);
        x.wish(3, 3, 2);
        x.wish(3, 4, 0);
        x.wish(4, 0, 0);
        due("10 wish", x.councillor(3, 5), 1);
        due("10 no wish", x.councillor(3, 1), 3);
        due("10 topics", x.councillor(3, 6), 1 | 32 | 8);
        due("10 laws", x.councillor(3, 7), 4);
        due("10 the shorter law does not hold", x.councillor(4, 6), 0);
        due("10 but is as wished", x.councillor(4, 7), 1);
        due("10 without a wish", x.councillor(0, 6), 0);
        due("10 without a wish", x.councillor(0, 7), 0);
        x.repeal(1);
        due("10 repealed", x.councillor(3, 6), 32 | 8);
        due("10 repealed", x.councillor(3, 7), 3);
        due("10 now it holds", x.councillor(4, 6), 1);
        refused(x, "10 councillor 5", () -> x.councillor(5, 0), NO_SUCH);
        refused(x, "10 councillor -1", () -> x.councillor(-1, 0), NO_SUCH);
        refused(x, "10 what 8", () -> x.councillor(0, 8), BAD_VALUE);
        refused(x, "10 what -1", () -> x.councillor(0, -1), BAD_VALUE);
        refused(x, "10 councillor before what", () -> x.councillor(5, 8), NO_SUCH);
    }

    // ---- 11: count

    private static void promise11() {
        RepealedLaws x = new RepealedLaws();
        x.set(YEAS, 1);
        x.set(ROOM, 7);
        x.set(MEMORY, 5);
        x.endSession();
        type(x, "30f50a90d30f!30a21f21f");
        due("11 pad", x.count(12), 22);
        due("11 read", x.read(), 5);
        x.repeal(2);
        type(x, "9");
        int[] counts = {1, 7, 5, 2, 5, 3, 2, 10, 0, 0, 2, 2, 1, 6};
        for (int what = 0; what < counts.length; what++) {
            due("11 count " + what, x.count(what), counts[what]);
        }
        refused(x, "11 what 14", () -> x.count(14), BAD_VALUE);
        refused(x, "11 what -1", () -> x.count(-1), BAD_VALUE);
        type(x, "1d92d92d");
        due("11 two more pass", x.read(), 2);
        due("11 failed so far", x.count(11), 3);
    }

    private static void promise11Pairs() {
        RepealedLaws x = new RepealedLaws();
        type(x, "10f20f30a40d50f61a71d81d91d");
        due("11 nine laws", x.read(), 9);
        due("11 words", x.count(7), 45);
        due("11 by pairs", x.count(8), 3 + 3 + 1 + 3);
        due("11 by topics", x.count(9), 3 + 3 + 1 + 3);
        due("11 topics", x.count(10), 2);
        x.repeal(3);
        x.repeal(5);
        due("11 by pairs", x.count(8), 3);
        due("11 by topics", x.count(9), 3);
        due("11 words", x.count(7), 35);
        for (int i = 0; i < 9; i++) {
            x.endSession();
        }
        due("11 six undos at most", x.count(13), 6);
        due("11 session", x.count(3), 9);
        x.undo();
        due("11 one less", x.count(13), 5);
    }

    // ---- 12: why

    private static void promise12() {
        RepealedLaws x = new RepealedLaws();
        due("12 passes", x.why(3, 0, 1, NONE), 0);
        x.propose(3, 0, 1, NONE);
        due("12 like one in force", x.why(3, 0, 1, NONE), 1);
        due("12 like the one it names", x.why(3, 0, 1, 0), 2);
        due("12 another length", x.why(4, 0, 1, 0), 4);
        due("12 names none", x.why(3, 0, 2, NONE), 5);
        due("12 names its length", x.why(3, 0, 2, 0), 0);
        x.set(ROOM, 1);
        due("12 no room", x.why(4, 0, 1, NONE), 6);
        due("12 room for one that repeals", x.why(3, 0, 2, 0), 0);
        x.set(ROOM, 2);
        due("12 room for a second", x.why(4, 0, 1, NONE), 0);
        x.set(YEAS, 4);
        due("12 three yeas", x.why(4, 0, 1, NONE), 7);
        x.set(YEAS, 3);
        x.repeal(0);
        due("12 repealed now", x.why(3, 0, 1, NONE), 3);
        due("12 names one not in force", x.why(3, 0, 2, 0), 4);
        due("12 like the repealed one that it names", x.why(3, 0, 1, 0), 2);
        due("12 nothing changed", x.count(4), 1);
        refused(x, "12 topic", () -> x.why(2, 6, 0, NONE), NO_SUCH);
        refused(x, "12 law", () -> x.why(2, 0, 0, 1), NO_SUCH);
        refused(x, "12 law -1", () -> x.why(2, 0, 0, -1), NO_SUCH);
        refused(x, "12 length", () -> x.why(0, 0, 0, NONE), BAD_VALUE);
        refused(x, "12 length", () -> x.why(10, 0, 0, NONE), BAD_VALUE);
        refused(x, "12 stance", () -> x.why(2, 0, 3, NONE), BAD_VALUE);
        refused(x, "12 law before length", () -> x.why(0, 0, 0, 1), NO_SUCH);
        refused(x, "12 topic before stance", () -> x.why(2, 6, 3, NONE), NO_SUCH);
        RepealedLaws full = full();
        refused(full, "12 too many", () -> full.why(2, 0, 0, NONE), TOO_MANY);
        refused(full, "12 too many for a bill that fails", () -> full.why(1, 0, 0, NONE), TOO_MANY);
        refused(full, "12 law before too many", () -> full.why(2, 0, 0, 80), NO_SUCH);
        refused(full, "12 stance before too many", () -> full.why(2, 0, 3, NONE), BAD_VALUE);
    }

    /** Each bill fails for its reason and for later ones; with the reason mended the next one is told. */
    private static void promise12Order() {
        RepealedLaws x = new RepealedLaws();
        x.set(MEMORY, 0);
        x.propose(3, 0, 0, NONE);
        x.repeal(0);
        x.propose(3, 0, 0, NONE);
        x.set(MEMORY, 9);
        x.set(ROOM, 1);
        x.set(YEAS, 5);
        due("12 1 before 2: names a repealed one like it", x.why(3, 0, 0, 0), 1);
        due("12 1 before 3, 5, 6, 7", x.why(3, 0, 0, NONE), 1);
        due("12 2 before 3 and 7", x.why(3, 0, 0, 1), 2);
        x.propose(4, 0, 0, NONE);
        x.repeal(1);
        due("12 2 before 4", x.why(3, 0, 0, 0), 2);
        x.set(ROOM, 16);
        x.set(YEAS, 1);
        x.propose(4, 4, 1, NONE);
        due("12 3 before 4", x.why(3, 0, 0, 2), 3);
        x.propose(3, 4, 0, NONE);
        x.set(ROOM, 2);
        x.set(YEAS, 5);
        due("12 3 before 5, 6, 7", x.why(3, 0, 0, NONE), 3);
        due("12 4 before 7", x.why(3, 4, 2, 2), 4);
        due("12 5 before 6 and 7", x.why(3, 4, 2, NONE), 5);
        due("12 6 before 7", x.why(5, 4, 2, NONE), 6);
        x.set(ROOM, 3);
        due("12 7", x.why(5, 4, 2, NONE), 7);
        due("12 naming one needs no room", x.why(3, 4, 2, 3), 7);
        x.set(ROOM, 1);
        due("12 naming one needs no room", x.why(3, 4, 2, 3), 7);
        x.set(YEAS, 3);
        due("12 passes", x.why(3, 4, 2, 3), 0);
    }

    private static void promise12Memory() {
        for (int memory = 0; memory <= 9; memory++) {
            RepealedLaws x = new RepealedLaws();
            x.set(MEMORY, memory);
            x.propose(3, 0, 0, NONE);
            x.endSession();
            x.repeal(0);
            for (int ago = 0; ago <= 10; ago++) {
                due("12 memory " + memory + ", ago " + ago, x.why(3, 0, 0, NONE), ago < memory ? 3 : 0);
                due("12 unlike in length", x.why(4, 0, 0, NONE), 0);
                due("12 unlike in topic", x.why(3, 1, 0, NONE), 0);
                due("12 unlike in stance", x.why(3, 0, 1, NONE), 0);
                x.endSession();
            }
        }
    }

    /** Of several laws that are like a bill the one repealed last decides. */
    private static void promise12Restored() {
        RepealedLaws x = new RepealedLaws();
        x.set(MEMORY, 1);
        x.propose(3, 0, 0, NONE);
        x.repeal(0);
        x.endSession();
        x.propose(3, 0, 0, NONE);
        x.repeal(1);
        due("12 the later one", x.why(3, 0, 0, NONE), 3);
        x.endSession();
        due("12 neither", x.why(3, 0, 0, NONE), 0);
        x.set(MEMORY, 2);
        due("12 the later one again", x.why(3, 0, 0, NONE), 3);
    }

    // ---- 13: votes

    private static void promise13() {
        RepealedLaws x = new RepealedLaws();
        due("13 nobody cares", x.votes(1, 0, 0, NONE), 1 | 4 | 16);
        x.wish(0, 0, 1);
        x.wish(1, 0, 1);
        x.wish(2, 0, 0);
        x.wish(3, 0, 0);
        due("13 forbids", x.votes(1, 0, 0, NONE), 4 | 8 | 16);
        due("13 allows", x.votes(1, 0, 1, NONE), 1 | 2 | 16);
        due("13 demands", x.votes(1, 0, 2, NONE), 16);
        due("13 another topic", x.votes(1, 1, 0, NONE), 1 | 4 | 16);
        x.set(YEAS, 1);
        x.propose(3, 0, 1, NONE);
        due("13 it fails for another reason", x.votes(3, 0, 1, NONE), 1 | 2 | 16);
        due("13 another length counts too", x.votes(4, 0, 0, 0), 4 | 8 | 16);
        due("13 like the one it names", x.votes(3, 0, 1, 0), 1 | 4 | 16);
        x.repeal(0);
        due("13 a repealed law counts too", x.votes(3, 1, 0, 0), 4 | 8 | 16);
        refused(x, "13 topic", () -> x.votes(2, 6, 0, NONE), NO_SUCH);
        refused(x, "13 topic", () -> x.votes(2, -1, 0, NONE), NO_SUCH);
        refused(x, "13 law", () -> x.votes(2, 0, 0, 1), NO_SUCH);
        refused(x, "13 law -1", () -> x.votes(2, 0, 0, -1), NO_SUCH);
        refused(x, "13 length", () -> x.votes(0, 0, 0, NONE), BAD_VALUE);
        refused(x, "13 length", () -> x.votes(10, 0, 0, NONE), BAD_VALUE);
        refused(x, "13 stance", () -> x.votes(2, 0, 3, NONE), BAD_VALUE);
        refused(x, "13 stance", () -> x.votes(2, 0, -1, NONE), BAD_VALUE);
        refused(x, "13 topic before length", () -> x.votes(0, 6, 0, NONE), NO_SUCH);
        refused(x, "13 law before stance", () -> x.votes(2, 0, 3, 1), NO_SUCH);
        RepealedLaws full = full();
        due("13 with 80 laws", full.votes(2, 0, 0, NONE), 1 | 4 | 16);
        due("13 with 80 laws, naming one", full.votes(2, 0, 0, 79), 1 | 4 | 16);
    }

    /** All joys from -2 to 2, for an even and an odd councillor. */
    private static void promise13Joy() {
        int[] wishes = {3, 0, 1};
        int[] joyAtBill = {0, 1, -1};
        int[] joyAtLaw = {0, 1, -1};
        for (int atBill = 0; atBill < 3; atBill++) {
            for (int atLaw = 0; atLaw < 3; atLaw++) {
                RepealedLaws x = new RepealedLaws();
                x.propose(5, 4, 0, NONE);
                for (int councillor = 0; councillor < 5; councillor++) {
                    x.wish(councillor, 2, wishes[atBill]);
                    x.wish(councillor, 4, wishes[atLaw]);
                }
                int joy = joyAtBill[atBill] - joyAtLaw[atLaw];
                int voters = joy > 0 ? 31 : joy == 0 ? 1 | 4 | 16 : 0;
                due("13 joy " + joy, x.votes(5, 2, 0, 0), voters);
            }
        }
    }

    // ---- 14: bestRepeal

    private static void promise14() {
        RepealedLaws x = new RepealedLaws();
        due("14 none", x.bestRepeal(3, 0, 0), NONE);
        x.propose(2, 0, 0, NONE);
        x.propose(3, 0, 0, NONE);
        x.propose(9, 1, 0, NONE);
        due("14 of its length", x.bestRepeal(3, 5, 2), 1);
        due("14 of its length", x.bestRepeal(2, 5, 2), 0);
        due("14 of its length", x.bestRepeal(9, 5, 2), 2);
        due("14 none of its length", x.bestRepeal(4, 5, 2), NONE);
        due("14 also like it", x.bestRepeal(3, 0, 0), 1);
        x.set(YEAS, 5);
        for (int councillor = 0; councillor < 5; councillor++) {
            x.wish(councillor, 0, 0);
        }
        due("14 also without a vote", x.bestRepeal(3, 0, 1), 1);
        due("14 no votes", x.votes(3, 0, 1, 1), 0);
        x.repeal(1);
        due("14 not in force", x.bestRepeal(3, 0, 1), NONE);
        x.set(YEAS, 1);
        x.propose(3, 4, 1, NONE);
        due("14 the one in force", x.bestRepeal(3, 5, 0), 3);
        refused(x, "14 topic 6", () -> x.bestRepeal(3, 6, 0), NO_SUCH);
        refused(x, "14 topic -1", () -> x.bestRepeal(3, -1, 0), NO_SUCH);
        refused(x, "14 length 0", () -> x.bestRepeal(0, 0, 0), BAD_VALUE);
        refused(x, "14 length 10", () -> x.bestRepeal(10, 0, 0), BAD_VALUE);
        refused(x, "14 stance 3", () -> x.bestRepeal(3, 0, 3), BAD_VALUE);
        refused(x, "14 stance -1", () -> x.bestRepeal(3, 0, -1), BAD_VALUE);
        refused(x, "14 topic before length", () -> x.bestRepeal(0, 6, 3), NO_SUCH);
        RepealedLaws full = full();
        due("14 with 80 laws", full.bestRepeal(1, 0, 0), 79);
    }

    // ---- 15: longestBill

    private static void promise15() {
        RepealedLaws x = new RepealedLaws();
        due("15 all are free", x.longestBill(0, 0), 9);
        x.propose(9, 0, 0, NONE);
        due("15 repeals the one of 9", x.longestBill(0, 1), 9);
        due("15 like the one of 9", x.longestBill(0, 0), 8);
        x.propose(8, 0, 0, NONE);
        x.repeal(1);
        due("15 repealed lately", x.longestBill(0, 0), 7);
        for (int councillor = 0; councillor < 5; councillor++) {
            x.wish(councillor, 0, 0);
            x.wish(councillor, 1, 1);
        }
        x.set(YEAS, 5);
        due("15 none votes for it", x.longestBill(1, 0), NONE);
        due("15 not to repeal 9", x.longestBill(1, 1), 8);
        x.set(ROOM, 1);
        due("15 no room", x.longestBill(1, 1), NONE);
        for (int councillor = 0; councillor < 5; councillor++) {
            x.wish(councillor, 0, 1);
        }
        due("15 no room needed", x.longestBill(1, 1), 9);
        refused(x, "15 topic 6", () -> x.longestBill(6, 0), NO_SUCH);
        refused(x, "15 topic -1", () -> x.longestBill(-1, 0), NO_SUCH);
        refused(x, "15 stance 3", () -> x.longestBill(0, 3), BAD_VALUE);
        refused(x, "15 stance -1", () -> x.longestBill(0, -1), BAD_VALUE);
        refused(x, "15 topic before stance", () -> x.longestBill(6, 3), NO_SUCH);
        RepealedLaws full = full();
        refused(full, "15 too many", () -> full.longestBill(0, 0), TOO_MANY);
        refused(full, "15 topic before too many", () -> full.longestBill(6, 0), NO_SUCH);
        refused(full, "15 stance before too many", () -> full.longestBill(0, 3), BAD_VALUE);
        RepealedLaws y = new RepealedLaws();
        type(y, "20f30f40f50f60f70f80f90f");
        y.read();
        due("15 the shortest", y.longestBill(0, 0), 1);
        y.propose(1, 0, 0, NONE);
        due("15 none left", y.longestBill(0, 0), NONE);
    }

    // ---- 16: bestBill

    private static void promise16() {
        RepealedLaws x = new RepealedLaws();
        due("16 the least of all", x.bestBill(), 100);
        x.wish(1, 4, 2);
        due("16 one vote more", x.bestBill(), 142);
        x.wish(3, 4, 1);
        x.wish(3, 5, 0);
        due("16 the lowest topic", x.bestBill(), 141);
        x.wish(1, 5, 0);
        due("16 five votes", x.bestBill(), 150);
        x.propose(1, 5, 0, NONE);
        due("16 the next length", x.bestBill(), 250);
        x.wish(1, 5, 1);
        x.wish(3, 5, 1);
        due("16 by what it repeals", x.bestBill(), 100);
        x.set(YEAS, 5);
        x.set(ROOM, 1);
        due("16 all five", x.bestBill(), 100);
        x.wish(0, 0, 0);
        x.wish(0, 5, 0);
        due("16 the one who loses the law decides", x.bestBill(), 100);
        x.wish(2, 0, 1);
        x.wish(2, 1, 1);
        x.wish(2, 2, 1);
        x.wish(2, 3, 1);
        x.wish(2, 5, 0);
        due("16 no bill pleases all", x.bestBill(), NONE);
        x.set(YEAS, 4);
        due("16 four", x.bestBill(), 100);
        RepealedLaws y = new RepealedLaws();
        type(y, "10f20f30f40f50f60f70f80f");
        y.read();
        due("16 the lowest topic and stance of 1", y.bestBill(), 101);
        for (int councillor = 0; councillor < 5; councillor++) {
            y.wish(councillor, 0, 0);
            y.wish(councillor, 5, 2);
        }
        due("16 only a bill of 9 repeals nothing that all want", y.bestBill(), 900);
        y.propose(9, 0, 0, NONE);
        due("16 then three votes", y.bestBill(), 152);
        RepealedLaws full = full();
        refused(full, "16 too many", full::bestBill, TOO_MANY);
    }

    // ---- 17: put

    private static void promise17() {
        RepealedLaws x = new RepealedLaws();
        due("17 one", x.put('1'), 1);
        due("17 two", x.put(characters("0f")), 3);
        due("17 eight", x.put(characters("20a30d!!")), 11);
        due("17 in their order", x.fault(), 10);
        x.wipe();
        due("17 least and greatest", x.put(33L << 8 | 126), 2);
        refused(x, "17 none", () -> x.put(0), BAD_VALUE);
        refused(x, "17 code 32", () -> x.put(32), BAD_VALUE);
        refused(x, "17 code 127", () -> x.put(127), BAD_VALUE);
        refused(x, "17 code 128", () -> x.put(128), BAD_VALUE);
        refused(x, "17 code 255", () -> x.put(255), BAD_VALUE);
        refused(x, "17 code 10 before", () -> x.put(10 << 8 | 49), BAD_VALUE);
        refused(x, "17 code 10 behind", () -> x.put(49 << 8 | 10), BAD_VALUE);
        refused(x, "17 nothing at the end", () -> x.put(49 << 8), BAD_VALUE);
        refused(x, "17 nothing between", () -> x.put(49 << 16 | 49), BAD_VALUE);
        refused(x, "17 a bit above nothing", () -> x.put(1L << 62 | 49), BAD_VALUE);
        refused(x, "17 the highest bit above nothing", () -> x.put(1L << 63 | 49), BAD_VALUE);
        refused(x, "17 a low bit above nothing", () -> x.put(1L << 16 | 49), BAD_VALUE);
        refused(x, "17 code 177 first of eight", () -> x.put(characters("11111111") | 1L << 63), BAD_VALUE);
        refused(x, "17 all bits", () -> x.put(-1), BAD_VALUE);
        refused(x, "17 all bits but one", () -> x.put(Long.MIN_VALUE), BAD_VALUE);
        for (int length = 10; length <= 58; length += 8) {
            due("17 eight more", x.put(characters("!~!~!~!~")), length);
        }
        refused(x, "17 three at 58", () -> x.put(characters("111")), TOO_MANY);
        refused(x, "17 bad before too many", () -> x.put(characters("111") << 8), BAD_VALUE);
        due("17 two at 58", x.put(characters("11")), 60);
        refused(x, "17 one at 60", () -> x.put('1'), TOO_MANY);
        refused(x, "17 bad at 60", () -> x.put(32), BAD_VALUE);
        due("17 no change", x.count(13), 0);
    }

    // ---- 18: wipe

    private static void promise18() {
        RepealedLaws x = new RepealedLaws();
        due("18 empty", x.wipe(), 0);
        type(x, "10f20f30f");
        due("18 nine", x.wipe(), 9);
        due("18 empty then", x.count(12), 0);
        due("18 empty then", x.wipe(), 0);
        due("18 no change", x.count(13), 0);
        type(x, "1");
        due("18 nothing left of the old text", x.fault(), 1);
        type(x, "0f");
        due("18 one bill", x.read(), 1);
        due("18 read empties", x.wipe(), 0);
    }

    // ---- 19: fault

    private static void promise19() {
        dueFault("", 0);
        dueFault("1", 1);
        dueFault("10", 2);
        dueFault("10f", NONE);
        dueFault("10f!", NONE);
        dueFault("10f!2", 5);
        dueFault("10f2", 4);
        dueFault("10f20", 5);
        dueFault("10f20a", NONE);
        dueFault("10f!20a!30d!", NONE);
        dueFault("!", 0);
        dueFault("!10f", 0);
        dueFault("10f!!", 4);
        dueFault("10f20a!!", 7);
        dueFault("1!", 1);
        dueFault("10!", 2);
        dueFault("10f20!", 5);
        dueFault("10ff", 3);
        dueFault("f", 0);
        dueFault("1f", 1);
        dueFault("101", 2);
        dueFault("10f!f", 4);
        for (int code = 33; code <= 126; code++) {
            String sign = String.valueOf((char) code);
            dueFault(sign, code >= '1' && code <= '9' ? 1 : 0);
            dueFault("10f" + sign, code == '!' ? NONE : code >= '1' && code <= '9' ? 4 : 3);
            dueFault("10f!" + sign, code >= '1' && code <= '9' ? 5 : 4);
            dueFault("1" + sign, code >= '0' && code <= '5' ? 2 : 1);
            dueFault("10" + sign, "fad".indexOf(code) >= 0 ? NONE : 2);
        }
        String full = "10f!20a30d!45f50a61d72f83a94d!";
        dueFault(full + full, NONE);
        dueFault(full + full.substring(0, 29) + "1", 60);
        RepealedLaws x = new RepealedLaws();
        type(x, "10f20f");
        x.fault();
        due("19 nothing changes", x.count(12), 6);
        due("19 nothing changes", x.count(13), 0);
    }

    // ---- 20: undo

    private static void promise20() {
        RepealedLaws x = new RepealedLaws();
        refused(x, "20 nothing to undo", x::undo, NOT_POSSIBLE);
        String[] states = new String[9];
        for (int i = 0; i < 9; i++) {
            states[i] = counts(x);
            x.propose(i + 1, i % 6, i % 3, NONE);
            due("20 at most 6", x.count(13), Math.min(i + 1, 6));
        }
        for (int left = 5; left >= 0; left--) {
            due("20 left", x.undo(), left);
            due("20 as before", counts(x), states[left + 3]);
        }
        refused(x, "20 no more", x::undo, NOT_POSSIBLE);
        x.endSession();
        due("20 one again", x.undo(), 0);
        due("20 as before", counts(x), states[3]);
    }

    private static void promise20EachChange() {
        RepealedLaws x = new RepealedLaws();
        x.propose(3, 0, 0, NONE);
        x.save(1);
        String before = counts(x);
        undone(x, before, "set", () -> x.set(YEAS, 5));
        undone(x, before, "set the same", () -> x.set(YEAS, 3));
        undone(x, before, "wish", () -> x.wish(3, 3, 2));
        undone(x, before, "wish the same", () -> x.wish(3, 3, 3));
        undone(x, before, "propose", () -> x.propose(3, 4, 1, 0));
        undone(x, before, "repeal", () -> x.repeal(0));
        undone(x, before, "endSession", x::endSession);
        undone(x, before, "restore", () -> x.restore(1));
        type(x, "30f!40f!30a!");
        undone(x, before, "read", x::read);
        due("20 the pad stays empty", x.count(12), 0);
        type(x, "30f");
        undone(x, before, "read without a law", x::read);
        x.endSession();
        type(x, "55d");
        x.undo();
        due("20 the pad stays", x.count(12), 3);
        x.endSession();
        x.repeal(0);
        x.save(0);
        x.undo();
        x.undo();
        due("20 the slots stay", x.restore(0), 0);
        due("20 the slots stay", x.count(3), 1);
    }

    private static void promise20NoChange() {
        RepealedLaws x = new RepealedLaws();
        x.propose(3, 0, 0, NONE);
        type(x, "30f");
        x.wipe();
        x.fault();
        x.save(0);
        x.save(5);
        x.read();
        x.propose(3, 0, 1, NONE);
        x.set(YEAS, 9);
        x.wish(0, 0, 9);
        x.repeal(4);
        x.restore(1);
        x.why(3, 0, 0, NONE);
        x.votes(3, 0, 0, NONE);
        x.bestRepeal(3, 0, 0);
        x.longestBill(0, 0);
        x.bestBill();
        due("20 one change", x.count(13), 1);
        due("20 undone", x.undo(), 0);
        due("20 no law", x.count(4), 0);
    }

    // ---- 21: save

    private static void promise21() {
        RepealedLaws x = new RepealedLaws();
        due("21 no law", x.save(0), 0);
        x.propose(3, 0, 0, NONE);
        x.propose(4, 0, 0, NONE);
        due("21 two laws", x.save(1), 2);
        x.repeal(1);
        due("21 one law", x.save(1), 1);
        due("21 no change", x.count(13), 3);
        x.propose(5, 0, 0, NONE);
        due("21 overwritten", x.restore(1), 1);
        due("21 the other slot", x.restore(0), 0);
        refused(x, "21 slot 2", () -> x.save(2), BAD_VALUE);
        refused(x, "21 slot -1", () -> x.save(-1), BAD_VALUE);
        RepealedLaws y = new RepealedLaws();
        y.save(0);
        refused(y, "21 only the slot named", () -> y.restore(1), NOT_POSSIBLE);
        refused(y, "21 refused", () -> y.save(2), BAD_VALUE);
    }

    // ---- 22: restore

    private static void promise22() {
        RepealedLaws z = new RepealedLaws();
        refused(z, "22 slot 2", () -> z.restore(2), BAD_VALUE);
        refused(z, "22 slot -1", () -> z.restore(-1), BAD_VALUE);
        refused(z, "22 slot 0", () -> z.restore(0), NOT_POSSIBLE);
        refused(z, "22 slot 1", () -> z.restore(1), NOT_POSSIBLE);
        RepealedLaws x = new RepealedLaws();
        x.set(YEAS, 2);
        x.set(ROOM, 9);
        x.set(MEMORY, 7);
        x.wish(3, 5, 1);
        type(x, "30f!40a40a!40d50d");
        x.read();
        String saved = seen(x);
        due("22 saved", x.save(1), 3);
        x.set(YEAS, 1);
        x.set(ROOM, 1);
        x.set(MEMORY, 0);
        x.wish(3, 5, 3);
        x.repeal(0);
        x.endSession();
        type(x, "30f!40a40a!60d50f");
        x.read();
        String later = seen(x);
        type(x, "9");
        due("22 restored", x.restore(1), 3);
        due("22 the pad stays", x.wipe(), 1);
        due("22 as saved", seen(x), saved);
        due("22 the history stays", x.count(13), 6);
        x.repeal(2);
        due("22 the slot keeps it", x.restore(1), 3);
        due("22 as saved", seen(x), saved);
        x.undo();
        x.undo();
        x.undo();
        due("22 undone", seen(x), later);
        RepealedLaws y = new RepealedLaws();
        y.save(0);
        y.propose(1, 0, 0, NONE);
        y.undo();
        y.propose(2, 0, 0, NONE);
        y.restore(0);
        due("22 a change", y.count(13), 2);
        due("22 empty", y.count(4), 0);
        y.undo();
        due("22 undone", y.count(7), 2);
    }

    /** Other laws that took the numbers of those saved, or undone, leave nothing behind. */
    private static void promise22OtherLaws() {
        RepealedLaws x = new RepealedLaws();
        x.save(0);
        x.endSession();
        x.propose(3, 2, 1, NONE);
        x.endSession();
        x.propose(3, 4, 0, 0);
        x.repeal(1);
        String saved = seen(x);
        x.save(1);
        x.restore(0);
        x.propose(7, 5, 2, NONE);
        x.propose(8, 0, 2, NONE);
        String others = seen(x);
        due("22 the saved laws", x.restore(1), 0);
        due("22 the saved laws", seen(x), saved);
        due("22 the other laws", x.undo(), 5);
        due("22 the other laws", seen(x), others);
        x.restore(1);
        due("22 the saved laws again", seen(x), saved);
    }

    // ---- numbers far out of all ranges, at each call that takes one

    private static void strangeNumbers() {
        for (int strange : new int[] {LEAST, LEAST + 1, -1000, 81, 1000, 65536, GREATEST - 1, GREATEST}) {
            RepealedLaws x = oneLaw();
            refused(x, "strange set", () -> x.set(strange, 1), BAD_VALUE);
            refused(x, "strange value", () -> x.set(0, strange), BAD_VALUE);
            refused(x, "strange councillor", () -> x.wish(strange, 0, 0), NO_SUCH);
            refused(x, "strange topic", () -> x.wish(0, strange, 0), NO_SUCH);
            refused(x, "strange wish", () -> x.wish(0, 0, strange), BAD_VALUE);
            refused(x, "strange length", () -> x.propose(strange, 0, 0, NONE), BAD_VALUE);
            refused(x, "strange topic", () -> x.propose(1, strange, 0, NONE), NO_SUCH);
            refused(x, "strange stance", () -> x.propose(1, 0, strange, NONE), BAD_VALUE);
            refused(x, "strange law", () -> x.propose(1, 0, 0, strange), NO_SUCH);
            refused(x, "strange law", () -> x.repeal(strange), NO_SUCH);
            refused(x, "strange law", () -> x.law(strange, 0), NO_SUCH);
            refused(x, "strange what", () -> x.law(0, strange), BAD_VALUE);
            refused(x, "strange topic", () -> x.topic(strange, 0), NO_SUCH);
            refused(x, "strange what", () -> x.topic(0, strange), BAD_VALUE);
            refused(x, "strange councillor", () -> x.councillor(strange, 0), NO_SUCH);
            refused(x, "strange what", () -> x.councillor(0, strange), BAD_VALUE);
            refused(x, "strange what", () -> x.count(strange), BAD_VALUE);
            refused(x, "strange law", () -> x.votes(1, 0, 0, strange), NO_SUCH);
            refused(x, "strange topic", () -> x.longestBill(strange, 0), NO_SUCH);
            refused(x, "strange stance", () -> x.longestBill(0, strange), BAD_VALUE);
            refused(x, "strange slot", () -> x.save(strange), BAD_VALUE);
            refused(x, "strange slot", () -> x.restore(strange), BAD_VALUE);
        }
    }

    // ---- helpers

    /** An object with 80 laws in the session 0, of which the last one, of length 1, is in force. */
    private static RepealedLaws full() {
        RepealedLaws x = new RepealedLaws();
        x.set(MEMORY, 0);
        for (int i = 0; i < 4; i++) {
            type(x, "10f10a10d10f10a10d10f10a10d10f10a10d10f10a10d10f10a10d");
            x.read();
        }
        while (x.count(4) < 80) {
            int last = x.count(4) - 1;
            x.propose(1, 0, (x.law(last, 2) + 1) % 3, last);
        }
        return x;
    }

    private static void dueFault(String text, int want) {
        RepealedLaws x = new RepealedLaws();
        type(x, text);
        due("19 the fault of '" + text + "'", x.fault(), want);
        due("19 is a text to read '" + text + "'", x.read() == BAD_TEXT ? 0 : 1, want == NONE ? 1 : 0);
    }

    private static void dueLaw(String what, RepealedLaws x, int law, int... want) {
        for (int i = 0; i < want.length; i++) {
            due(what + ", " + i, x.law(law, i), want[i]);
        }
    }

    /** A call that has to return an error and to change nothing. */
    private static void refused(RepealedLaws x, String what, IntSupplier call, int want) {
        String before = brief(x);
        due(what, call.getAsInt(), want);
        due(what + " changes nothing", brief(x), before);
    }

    /** A call that has to be a change, which undo() takes back. */
    private static void undone(RepealedLaws x, String before, String what, IntSupplier call) {
        int kept = x.count(13);
        due("20 " + what + " returns no error", call.getAsInt() >= 0 ? 1 : 0, 1);
        due("20 " + what + " is a change", x.count(13), kept + 1);
        due("20 " + what + " undone", x.undo(), kept);
        due("20 " + what + " undone", counts(x), before);
    }

    /** Enough to see a change by a refused call, in few calls; the tests of edges look at all. */
    private static String brief(RepealedLaws x) {
        StringBuilder text = new StringBuilder("fault ").append(x.fault()).append(", counts");
        for (int what : new int[] {3, 4, 5, 11, 12, 13}) {
            text.append(' ').append(x.count(what));
        }
        return text.toString();
    }

    /** The counts but for those of the pad and the history. */
    private static String counts(RepealedLaws x) {
        StringBuilder text = new StringBuilder("counts");
        for (int what = 0; what < 12; what++) {
            text.append(' ').append(x.count(what));
        }
        return text.toString();
    }

    // ---- what README.md shows

    private static void exampleOfTheReadme() {
        RepealedLaws code = new RepealedLaws();
        due("readme wish", code.wish(1, 0, 1), 3);
        due("readme law", code.propose(3, 0, 1, RepealedLaws.NONE), 0);
        due("readme why", code.why(3, 0, 2, RepealedLaws.NONE), 5);
        due("readme best", code.bestRepeal(3, 0, 2), 0);
        due("readme put", code.put('4' << 16 | '1' << 8 | 'd'), 3);
        due("readme passed", code.read(), 1);
        due("readme undo", code.undo(), 2);
        due("readme laws", code.count(4), 1);
    }
}
