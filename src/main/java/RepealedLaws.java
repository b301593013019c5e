/**
 * The code of an island where each new law must repeal one of its length: laws with a length, a
 * topic and a stance, councillors with wishes who vote on bills, bills that are read from texts,
 * undo, and saved states. ../shared/DOC.md says what each call promises.
 */
public final class RepealedLaws {
    public static final int NO_SUCH = -1, BAD_VALUE = -2, BAD_TEXT = -3, TOO_MANY = -4, NOT_POSSIBLE = -5, NONE = -6;
    public static final int YEAS = 0, ROOM = 1, MEMORY = 2;

    private static final int SETTINGS = 3;
    private static final int COUNCILLORS = 5;
    private static final int TOPICS = 6;
    private static final int STANCES = 3;
    private static final int NO_WISH = 3;
    private static final int MOST_WORDS = 9;
    private static final int MOST_LAWS = 80;
    private static final int MOST_SIGNS = 60;
    private static final int MOST_SIGNS_AT_ONCE = 8;
    private static final int MOST_UNDOS = 6;
    private static final int SLOTS = 2;

    private static final int PASSES = 0;
    private static final int LIKE_A_LAW_IN_FORCE = 1;
    private static final int LIKE_THE_LAW_IT_NAMES = 2;
    private static final int REPEALED_LATELY = 3;
    private static final int NAMES_A_WRONG_LAW = 4;
    private static final int NAMES_NO_LAW_OF_ITS_LENGTH = 5;
    private static final int NO_ROOM = 6;
    private static final int TOO_FEW_YEAS = 7;

    private static final int[] LEAST_VALUES = {1, 1, 0};
    private static final int[] GREATEST_VALUES = {5, 16, 9};

    private final Code code;
    private final Pad pad;
    private final History history;
    private final Code[] slots;
    private final boolean[] filled;

    public RepealedLaws() {
        code = new Code();
        pad = new Pad();
        history = new History();
        slots = new Code[SLOTS];
        for (int slot = 0; slot < SLOTS; slot++) {
            slots[slot] = new Code();
        }
        filled = new boolean[SLOTS];
    }

    // ---- changes

    public int set(int setting, int value) {
        if (setting < 0 || setting >= SETTINGS) {
            return BAD_VALUE;
        }
        if (value < LEAST_VALUES[setting] || value > GREATEST_VALUES[setting]) {
            return BAD_VALUE;
        }
        history.remember(code);
        int previous = code.settings[setting];
        code.settings[setting] = value;
        return previous;
    }

    public int wish(int councillor, int topic, int wish) {
        if (!isCouncillor(councillor) || !isTopic(topic)) {
            return NO_SUCH;
        }
        if (!isStance(wish) && wish != NO_WISH) {
            return BAD_VALUE;
        }
        history.remember(code);
        int previous = code.wishOf(councillor, topic);
        code.changeWish(councillor, topic, wish);
        return previous;
    }

    public int propose(int length, int topic, int stance, int law) {
        int reason = why(length, topic, stance, law);
        if (reason < 0) {
            return reason;
        }
        if (reason != PASSES) {
            return NOT_POSSIBLE;
        }
        history.remember(code);
        return code.enact(length, topic, stance, law);
    }

    public int repeal(int law) {
        if (!code.isLaw(law)) {
            return NO_SUCH;
        }
        if (!code.inForce(law)) {
            return NOT_POSSIBLE;
        }
        history.remember(code);
        code.endLaw(law, NONE);
        return code.session - code.madeIn[law];
    }

    public int endSession() {
        history.remember(code);
        int made = code.madeInThisSession();
        code.session++;
        return made;
    }

    public int read() {
        if (pad.firstFault() != NONE) {
            return BAD_TEXT;
        }
        history.remember(code);
        int passed = 0;
        for (int at = 0; at + 2 < pad.length; at += 3) {
            if (voteOn(pad.lengthAt(at), pad.topicAt(at + 1), pad.stanceAt(at + 2))) {
                passed++;
            } else {
                code.failures++;
            }
            if (pad.endsSessionAt(at + 3)) {
                code.session++;
                at++;
            }
        }
        pad.clear();
        return passed;
    }

    // ---- what there is; nothing changes

    public int law(int law, int what) {
        if (!code.isLaw(law)) {
            return NO_SUCH;
        }
        switch (what) {
            case 0: return code.lengths[law];
            case 1: return code.topics[law];
            case 2: return code.stances[law];
            case 3: return code.madeIn[law];
            case 4: return code.repealedIn[law];
            case 5: return code.repealOf[law];
            case 6: return code.repealedBy[law];
            case 7: return code.contradictionsOf(law);
            case 8: return code.holderIn(code.topics[law]) == law ? 1 : 0;
            default: return BAD_VALUE;
        }
    }

    public int topic(int topic, int what) {
        if (!isTopic(topic)) {
            return NO_SUCH;
        }
        switch (what) {
            case 0: return code.lawsInForceIn(topic);
            case 1: return code.stanceHeldIn(topic);
            case 2: return code.holderIn(topic);
            case 3: return code.contradictionsIn(topic);
            case 4: return code.councillorsContentIn(topic);
            default: return BAD_VALUE;
        }
    }

    public int councillor(int councillor, int what) {
        if (!isCouncillor(councillor)) {
            return NO_SUCH;
        }
        if (isTopic(what)) {
            return code.wishOf(councillor, what);
        }
        switch (what) {
            case 6: return code.topicsAsWishedBy(councillor);
            case 7: return code.lawsAsWishedBy(councillor);
            default: return BAD_VALUE;
        }
    }

    public int count(int what) {
        if (what >= 0 && what < SETTINGS) {
            return code.settings[what];
        }
        switch (what) {
            case 3: return code.session;
            case 4: return code.made;
            case 5: return code.lawsInForce();
            case 6: return code.made - code.lawsInForce();
            case 7: return code.wordsInForce();
            case 8: return code.contradictionsByPairs();
            case 9: return code.contradictionsByTopics();
            case 10: return code.topicsWithHolder();
            case 11: return code.failures;
            case 12: return pad.length;
            case 13: return history.kept;
            default: return BAD_VALUE;
        }
    }

    // ---- what if; nothing changes

    public int why(int length, int topic, int stance, int law) {
        int error = errorOfBill(length, topic, stance, law);
        if (error != 0) {
            return error;
        }
        if (code.isFull()) {
            return TOO_MANY;
        }
        return code.reasonAgainst(length, topic, stance, law);
    }

    public int votes(int length, int topic, int stance, int law) {
        int error = errorOfBill(length, topic, stance, law);
        return error != 0 ? error : code.votersFor(topic, stance, law);
    }

    public int bestRepeal(int length, int topic, int stance) {
        int error = errorOfBill(length, topic, stance, NONE);
        return error != 0 ? error : code.bestRepealFor(length, topic, stance);
    }

    public int longestBill(int topic, int stance) {
        int error = errorOfBill(MOST_WORDS, topic, stance, NONE);
        if (error != 0) {
            return error;
        }
        if (code.isFull()) {
            return TOO_MANY;
        }
        for (int length = MOST_WORDS; length >= 1; length--) {
            if (code.votesIfPassing(length, topic, stance) != NONE) {
                return length;
            }
        }
        return NONE;
    }

    public int bestBill() {
        if (code.isFull()) {
            return TOO_MANY;
        }
        int best = NONE;
        int mostVotes = NONE;
        for (int length = 1; length <= MOST_WORDS; length++) {
            for (int topic = 0; topic < TOPICS; topic++) {
                for (int stance = 0; stance < STANCES; stance++) {
                    int votes = code.votesIfPassing(length, topic, stance);
                    if (votes > mostVotes) {
                        mostVotes = votes;
                        best = 100 * length + 10 * topic + stance;
                    }
                }
            }
        }
        return best;
    }

    // ---- texts

    public int put(long characters) {
        int many = signsIn(characters);
        if (many == 0) {
            return BAD_VALUE;
        }
        if (pad.length + many > MOST_SIGNS) {
            return TOO_MANY;
        }
        for (int i = many - 1; i >= 0; i--) {
            pad.append((char) (characters >>> (8 * i) & 255));
        }
        return pad.length;
    }

    public int wipe() {
        int length = pad.length;
        pad.clear();
        return length;
    }

    public int fault() {
        return pad.firstFault();
    }

    // ---- undo, saving

    public int undo() {
        if (history.kept == 0) {
            return NOT_POSSIBLE;
        }
        history.takeBack(code);
        return history.kept;
    }

    public int save(int slot) {
        if (!isSlot(slot)) {
            return BAD_VALUE;
        }
        slots[slot].become(code);
        filled[slot] = true;
        return code.lawsInForce();
    }

    public int restore(int slot) {
        if (!isSlot(slot)) {
            return BAD_VALUE;
        }
        if (!filled[slot]) {
            return NOT_POSSIBLE;
        }
        history.remember(code);
        code.become(slots[slot]);
        return code.lawsInForce();
    }

    // ---- helpers

    private static boolean isCouncillor(int councillor) {
        return councillor >= 0 && councillor < COUNCILLORS;
    }

    private static boolean isTopic(int topic) {
        return topic >= 0 && topic < TOPICS;
    }

    private static boolean isStance(int stance) {
        return stance >= 0 && stance < STANCES;
    }

    private static boolean isLength(int length) {
        return length >= 1 && length <= MOST_WORDS;
    }

    private static boolean isSlot(int slot) {
        return slot >= 0 && slot < SLOTS;
    }

    /** The error of a bill that cannot be spoken of, 0 if there is none. */
    private int errorOfBill(int length, int topic, int stance, int law) {
        if (!isTopic(topic) || law != NONE && !code.isLaw(law)) {
            return NO_SUCH;
        }
        return isLength(length) && isStance(stance) ? 0 : BAD_VALUE;
    }

    /** Votes on a bill of the pad, and tells whether it passes. */
    private boolean voteOn(int length, int topic, int stance) {
        int law = code.bestRepealFor(length, topic, stance);
        if (code.isFull() || code.reasonAgainst(length, topic, stance, law) != PASSES) {
            return false;
        }
        code.enact(length, topic, stance, law);
        return true;
    }

    /** How many characters a number gives, 0 if it is not well formed. */
    private static int signsIn(long characters) {
        long rest = characters;
        int many = 0;
        while (many < MOST_SIGNS_AT_ONCE && rest != 0) {
            long sign = rest & 255;
            if (sign < 33 || sign > 126) {
                return 0;
            }
            many++;
            rest >>>= 8;
        }
        return many;
    }

    /** All that undo and the slots keep: settings, wishes, laws, the session and failed bills. */
    private static final class Code {
        final int[] settings = {3, 10, 2};
        final int[] wishes = new int[COUNCILLORS * TOPICS];
        final int[] lengths = new int[MOST_LAWS];
        final int[] topics = new int[MOST_LAWS];
        final int[] stances = new int[MOST_LAWS];
        final int[] madeIn = new int[MOST_LAWS];
        final int[] repealedIn = new int[MOST_LAWS];
        final int[] repealOf = new int[MOST_LAWS];
        final int[] repealedBy = new int[MOST_LAWS];
        int made;
        int session;
        int failures;

        Code() {
            for (int i = 0; i < COUNCILLORS * TOPICS; i++) {
                wishes[i] = NO_WISH;
            }
        }

        void become(Code other) {
            System.arraycopy(other.settings, 0, settings, 0, SETTINGS);
            System.arraycopy(other.wishes, 0, wishes, 0, COUNCILLORS * TOPICS);
            System.arraycopy(other.lengths, 0, lengths, 0, MOST_LAWS);
            System.arraycopy(other.topics, 0, topics, 0, MOST_LAWS);
            System.arraycopy(other.stances, 0, stances, 0, MOST_LAWS);
            System.arraycopy(other.madeIn, 0, madeIn, 0, MOST_LAWS);
            System.arraycopy(other.repealedIn, 0, repealedIn, 0, MOST_LAWS);
            System.arraycopy(other.repealOf, 0, repealOf, 0, MOST_LAWS);
            System.arraycopy(other.repealedBy, 0, repealedBy, 0, MOST_LAWS);
            made = other.made;
            session = other.session;
            failures = other.failures;
        }

        int wishOf(int councillor, int topic) {
            int place = councillor * TOPICS + topic;
            return place >= 0 && place < COUNCILLORS * TOPICS ? wishes[place] : NO_WISH;
        }

        void changeWish(int councillor, int topic, int wish) {
            int place = councillor * TOPICS + topic;
            if (place >= 0 && place < COUNCILLORS * TOPICS) {
                wishes[place] = wish;
            }
        }

        boolean isFull() {
            return made >= MOST_LAWS;
        }

        boolean isLaw(int law) {
            return law >= 0 && law < made;
        }

        boolean inForce(int law) {
            return isLaw(law) && repealedIn[law] == NONE;
        }

        boolean inForceIn(int law, int topic) {
            return inForce(law) && topics[law] == topic;
        }

        boolean isLike(int law, int length, int topic, int stance) {
            return isLaw(law) && lengths[law] == length && topics[law] == topic && stances[law] == stance;
        }

        boolean contradict(int law, int other) {
            return inForce(law) && inForce(other) && topics[law] == topics[other] && stances[law] != stances[other];
        }

        int lawsInForce() {
            int many = 0;
            for (int law = 0; law < made; law++) {
                if (inForce(law)) {
                    many++;
                }
            }
            return many;
        }

        int lawsInForceIn(int topic) {
            int many = 0;
            for (int law = 0; law < made; law++) {
                if (inForceIn(law, topic)) {
                    many++;
                }
            }
            return many;
        }

        int lawsInForceWith(int topic, int stance) {
            int many = 0;
            for (int law = 0; law < made; law++) {
                if (inForceIn(law, topic) && stances[law] == stance) {
                    many++;
                }
            }
            return many;
        }

        int wordsInForce() {
            int words = 0;
            for (int law = 0; law < made; law++) {
                if (inForce(law)) {
                    words += lengths[law];
                }
            }
            return words;
        }

        int madeInThisSession() {
            int many = 0;
            for (int law = 0; law < made; law++) {
                if (madeIn[law] == session) {
                    many++;
                }
            }
            return many;
        }

        /** The law by which something holds in a topic, or NONE. */
        int holderIn(int topic) {
            int holder = NONE;
            int longest = 0;
            for (int law = 0; law < made; law++) {
                if (inForceIn(law, topic) && lengths[law] >= longest) {
                    holder = law;
                    longest = lengths[law];
                }
            }
            return holder;
        }

        int stanceHeldIn(int topic) {
            int holder = holderIn(topic);
            return isLaw(holder) ? stances[holder] : NONE;
        }

        int topicsWithHolder() {
            int many = 0;
            for (int topic = 0; topic < TOPICS; topic++) {
                if (holderIn(topic) != NONE) {
                    many++;
                }
            }
            return many;
        }

        int contradictionsOf(int law) {
            int many = 0;
            for (int other = 0; other < made; other++) {
                if (contradict(law, other)) {
                    many++;
                }
            }
            return many;
        }

        int contradictionsIn(int topic) {
            int forbids = lawsInForceWith(topic, 0);
            int allows = lawsInForceWith(topic, 1);
            int demands = lawsInForceWith(topic, 2);
            return forbids * allows + forbids * demands + allows * demands;
        }

        int contradictionsByTopics() {
            int pairs = 0;
            for (int topic = 0; topic < TOPICS; topic++) {
                pairs += contradictionsIn(topic);
            }
            return pairs;
        }

        int contradictionsByPairs() {
            int pairs = 0;
            for (int law = 0; law < made; law++) {
                for (int other = law + 1; other < made; other++) {
                    if (contradict(law, other)) {
                        pairs++;
                    }
                }
            }
            return pairs;
        }

        int councillorsContentIn(int topic) {
            int stance = stanceHeldIn(topic);
            int many = 0;
            for (int councillor = 0; councillor < COUNCILLORS; councillor++) {
                if (wishOf(councillor, topic) == stance) {
                    many++;
                }
            }
            return many;
        }

        int topicsAsWishedBy(int councillor) {
            int set = 0;
            for (int topic = 0; topic < TOPICS; topic++) {
                if (wishOf(councillor, topic) == stanceHeldIn(topic)) {
                    set |= 1 << topic;
                }
            }
            return set;
        }

        int lawsAsWishedBy(int councillor) {
            int many = 0;
            for (int law = 0; law < made; law++) {
                if (inForce(law) && wishOf(councillor, topics[law]) == stances[law]) {
                    many++;
                }
            }
            return many;
        }

        /** The joy at a stance in a topic: 1 if it is wished, -1 if another one is, 0 without a wish. */
        int joyAt(int councillor, int topic, int stance) {
            int wish = wishOf(councillor, topic);
            if (wish == NO_WISH) {
                return 0;
            }
            return wish == stance ? 1 : -1;
        }

        /** The councillors who vote for a bill that would repeal a law, or NONE, as a set. */
        int votersFor(int topic, int stance, int law) {
            int voters = 0;
            for (int councillor = 0; councillor < COUNCILLORS; councillor++) {
                int joy = joyAt(councillor, topic, stance);
                if (isLaw(law)) {
                    joy -= joyAt(councillor, topics[law], stances[law]);
                }
                if (joy > 0 || joy == 0 && councillor % 2 == 0) {
                    voters |= 1 << councillor;
                }
            }
            return voters;
        }

        boolean isLikeAnotherInForce(int length, int topic, int stance, int named) {
            for (int law = 0; law < made; law++) {
                if (law != named && inForce(law) && isLike(law, length, topic, stance)) {
                    return true;
                }
            }
            return false;
        }

        boolean wasRepealedLately(int length, int topic, int stance) {
            for (int law = 0; law < made; law++) {
                if (!inForce(law) && isLike(law, length, topic, stance)
                        && session - repealedIn[law] < settings[MEMORY]) {
                    return true;
                }
            }
            return false;
        }

        boolean hasInForceOfLength(int length) {
            for (int law = 0; law < made; law++) {
                if (inForce(law) && lengths[law] == length) {
                    return true;
                }
            }
            return false;
        }

        /** The first reason why a bill fails, or PASSES. */
        int reasonAgainst(int length, int topic, int stance, int law) {
            if (isLikeAnotherInForce(length, topic, stance, law)) {
                return LIKE_A_LAW_IN_FORCE;
            }
            if (isLike(law, length, topic, stance)) {
                return LIKE_THE_LAW_IT_NAMES;
            }
            if (wasRepealedLately(length, topic, stance)) {
                return REPEALED_LATELY;
            }
            if (isLaw(law)) {
                if (!inForce(law) || lengths[law] != length) {
                    return NAMES_A_WRONG_LAW;
                }
            } else if (hasInForceOfLength(length)) {
                return NAMES_NO_LAW_OF_ITS_LENGTH;
            } else if (lawsInForce() >= settings[ROOM]) {
                return NO_ROOM;
            }
            int yeas = Integer.bitCount(votersFor(topic, stance, law));
            return yeas < settings[YEAS] ? TOO_FEW_YEAS : PASSES;
        }

        int bestRepealFor(int length, int topic, int stance) {
            int best = NONE;
            int mostVotes = -1;
            for (int law = 0; law < made; law++) {
                if (inForce(law) && lengths[law] == length) {
                    int votes = Integer.bitCount(votersFor(topic, stance, law));
                    if (votes > mostVotes) {
                        mostVotes = votes;
                        best = law;
                    }
                }
            }
            return best;
        }

        /** The votes for a bill that names the law best repealed for it, NONE if it would fail. */
        int votesIfPassing(int length, int topic, int stance) {
            int law = bestRepealFor(length, topic, stance);
            boolean passes = reasonAgainst(length, topic, stance, law) == PASSES;
            return passes ? Integer.bitCount(votersFor(topic, stance, law)) : NONE;
        }

        /** Makes a bill that passes a law, and returns its number. */
        int enact(int length, int topic, int stance, int repealed) {
            if (isFull()) {
                return TOO_MANY;
            }
            int law = made;
            lengths[law] = length;
            topics[law] = topic;
            stances[law] = stance;
            madeIn[law] = session;
            repealedIn[law] = NONE;
            repealOf[law] = repealed;
            repealedBy[law] = NONE;
            made++;
            endLaw(repealed, law);
            return law;
        }

        /** Ends a law's force by another law, or by decree (NONE). */
        void endLaw(int law, int repealer) {
            if (isLaw(law)) {
                repealedIn[law] = session;
                repealedBy[law] = repealer;
            }
        }
    }

    /** The text from which bills are read. */
    private static final class Pad {
        final char[] signs = new char[MOST_SIGNS];
        int length;

        void append(char sign) {
            if (length < MOST_SIGNS) {
                signs[length] = sign;
                length++;
            }
        }

        void clear() {
            length = 0;
        }

        /** The sign at an index, a blank, which stands nowhere in a bill, outside the text. */
        char signAt(int index) {
            return index >= 0 && index < length ? signs[index] : ' ';
        }

        int lengthAt(int index) {
            return signAt(index) - '0';
        }

        int topicAt(int index) {
            return signAt(index) - '0';
        }

        /** The stance that a letter means, -1 if it means none. */
        int stanceAt(int index) {
            char sign = signAt(index);
            if (sign == 'f') {
                return 0;
            }
            if (sign == 'a') {
                return 1;
            }
            return sign == 'd' ? 2 : -1;
        }

        boolean endsSessionAt(int index) {
            return signAt(index) == '!';
        }

        boolean fits(int index, int place) {
            switch (place) {
                case 0: return isLength(lengthAt(index));
                case 1: return isTopic(topicAt(index));
                default: return isStance(stanceAt(index));
            }
        }

        int firstFault() {
            int place = 0;
            for (int i = 0; i < length; i++) {
                boolean behindBill = place == 0 && i > 0 && !endsSessionAt(i - 1);
                if (behindBill && endsSessionAt(i)) {
                    continue;
                }
                if (!fits(i, place)) {
                    return i;
                }
                place = place == 2 ? 0 : place + 1;
            }
            return length == 0 || place != 0 ? length : NONE;
        }
    }

    /** The states before the latest changes; the oldest one makes room for one more. */
    private static final class History {
        final Code[] states = new Code[MOST_UNDOS];
        int oldest;
        int kept;

        History() {
            for (int i = 0; i < MOST_UNDOS; i++) {
                states[i] = new Code();
            }
        }

        void remember(Code code) {
            states[placeOf(kept)].become(code);
            if (kept < MOST_UNDOS) {
                kept++;
            } else {
                oldest = placeOf(1);
            }
        }

        void takeBack(Code code) {
            if (kept > 0) {
                kept--;
                code.become(states[placeOf(kept)]);
            }
        }

        /** Where the state stands that was recorded so many states behind the oldest one. */
        int placeOf(int behindOldest) {
            return (oldest + behindOldest) % MOST_UNDOS;
        }
    }
}
