import java.util.ArrayList;
import java.util.Comparator;
import java.util.List;
import java.util.Objects;
import java.util.Optional;
import java.util.regex.Pattern;
import java.util.stream.Collectors;
import java.util.stream.IntStream;

/** Long runs of calls, each answer compared with that of a plain second model of the document. */
public final class RepealedLawsModel {
    private static final int NO_SUCH = -1, BAD_VALUE = -2, BAD_TEXT = -3, TOO_MANY = -4, NOT_POSSIBLE = -5, NONE = -6;
    private static final int RUNS = 600, CALLS = 512, MOST_SHOWN = 20;

    private static int wrong = 0;

    public static void main(String[] args) {
        for (int run = 0; run < RUNS && wrong < MOST_SHOWN; run++) {
            compare(run);
        }
        System.out.println(wrong == 0 ? "class and model agree" : wrong + " answers are not as due");
        if (wrong != 0) {
            System.exit(1);
        }
    }

    private static void compare(int run) {
        Numbers numbers = new Numbers(run);
        RepealedLaws x = new RepealedLaws();
        Model model = new Model();
        List<String> calls = new ArrayList<>();
        for (int i = 0; i < CALLS; i++) {
            Call call = numbers.nextCall(model);
            calls.add(call.toString());
            int got = call.on(x);
            int want = call.on(model);
            if (got != want) {
                wrong++;
                System.out.println("run " + run + ": " + calls + " answered " + got + ", due is " + want);
                return;
            }
        }
    }

    // ---- calls

    private record Call(String name, long a, int b, int c, int d) {
        int on(RepealedLaws x) {
            int first = (int) a;
            switch (name) {
                case "set": return x.set(first, b);
                case "wish": return x.wish(first, b, c);
                case "propose": return x.propose(first, b, c, d);
                case "repeal": return x.repeal(first);
                case "endSession": return x.endSession();
                case "read": return x.read();
                case "law": return x.law(first, b);
                case "topic": return x.topic(first, b);
                case "councillor": return x.councillor(first, b);
                case "count": return x.count(first);
                case "why": return x.why(first, b, c, d);
                case "votes": return x.votes(first, b, c, d);
                case "bestRepeal": return x.bestRepeal(first, b, c);
                case "longestBill": return x.longestBill(first, b);
                case "bestBill": return x.bestBill();
                case "put": return x.put(a);
                case "wipe": return x.wipe();
                case "fault": return x.fault();
                case "undo": return x.undo();
                case "save": return x.save(first);
                case "restore": return x.restore(first);
                default: throw new IllegalStateException(name);
            }
        }

        int on(Model x) {
            int first = (int) a;
            switch (name) {
                case "set": return x.set(first, b);
                case "wish": return x.wish(first, b, c);
                case "propose": return x.propose(new Bill(first, b, c, d));
                case "repeal": return x.repeal(first);
                case "endSession": return x.endSession();
                case "read": return x.read();
                case "law": return x.law(first, b);
                case "topic": return x.topic(first, b);
                case "councillor": return x.councillor(first, b);
                case "count": return x.count(first);
                case "why": return x.why(new Bill(first, b, c, d));
                case "votes": return x.votes(new Bill(first, b, c, d));
                case "bestRepeal": return x.bestRepeal(new Bill(first, b, c, NONE));
                case "longestBill": return x.longestBill(first, b);
                case "bestBill": return x.bestBill();
                case "put": return x.put(a);
                case "wipe": return x.wipe();
                case "fault": return x.fault();
                case "undo": return x.undo();
                case "save": return x.save(first);
                case "restore": return x.restore(first);
                default: throw new IllegalStateException(name);
            }
        }
    }

    /** Numbers that follow from the run alone, so that each run can be had again. */
    private static final class Numbers {
        private static final String[] NAMES = {
            "set", "wish", "wish", "wish", "propose", "propose", "propose", "propose", "propose", "propose", "repeal",
            "endSession", "read", "read", "law", "law", "law", "topic", "topic", "councillor", "councillor", "count",
            "count", "count", "why", "why", "why", "votes", "votes", "bestRepeal", "bestRepeal", "longestBill",
            "longestBill", "bestBill", "put", "put", "put", "put", "wipe", "fault", "fault", "undo", "save", "restore"};

        private final int lengths;
        private final int topics;
        private final int strange;
        private final boolean many;
        private long state;
        private String waiting = "";

        Numbers(int run) {
            state = run * 7919L + 17;
            next(10);
            lengths = 1 + next(9);
            topics = 1 + next(6);
            strange = run % 3 == 0 ? 8 : 60;
            many = run % 4 == 1;
        }

        int next(int bound) {
            state = state * 6364136223846793005L + 1442695040888963407L;
            return (int) ((state >>> 33) % bound);
        }

        int between(int least, int greatest) {
            if (next(strange) == 0) {
                int[] odd = {least - 1, greatest + 1, NONE, -1, Integer.MIN_VALUE, Integer.MAX_VALUE};
                return odd[next(odd.length)];
            }
            return least + next(greatest - least + 1);
        }

        Call nextCall(Model model) {
            if (many && next(3) == 0) {
                return model.code.memory() > 0 ? new Call("set", 2, 0, 0, 0) : proposal(model, "propose");
            }
            String name = NAMES[next(NAMES.length)];
            switch (name) {
                case "set": return setting();
                case "wish": return new Call(name, between(0, 4), between(0, 5), between(0, 3), 0);
                case "propose", "why", "votes": return proposal(model, name);
                case "repeal": return new Call(name, aLaw(model), 0, 0, 0);
                case "law": return new Call(name, aLaw(model), between(0, 8), 0, 0);
                case "topic": return new Call(name, between(0, 5), between(0, 4), 0, 0);
                case "councillor": return new Call(name, between(0, 4), between(0, 7), 0, 0);
                case "count": return new Call(name, between(0, 13), 0, 0, 0);
                case "bestRepeal": return new Call(name, aLength(), aTopic(), between(0, 2), 0);
                case "longestBill": return new Call(name, aTopic(), between(0, 2), 0, 0);
                case "put": return new Call(name, characters(), 0, 0, 0);
                case "save", "restore": return new Call(name, between(0, 1), 0, 0, 0);
                default: return new Call(name, 0, 0, 0, 0);
            }
        }

        private Call setting() {
            int setting = between(0, 2);
            int value = setting == 0 ? between(1, 5) : setting == 1 ? between(1, 16) : between(0, 9);
            if (setting == 0 && next(2) == 0) {
                value = 1 + next(3);
            }
            return new Call("set", setting, value, 0, 0);
        }

        private Call proposal(Model model, String name) {
            int length = aLength();
            int law = next(3) == 0 ? NONE : aLaw(model);
            if (next(3) > 0 && length >= 1 && length <= 9) {
                law = model.code.best(new Bill(length, 0, 0, NONE));
            }
            return new Call(name, length, aTopic(), between(0, 2), law);
        }

        private int aLength() {
            return next(strange) == 0 ? between(1, 9) : 1 + next(lengths);
        }

        private int aTopic() {
            return next(strange) == 0 ? between(0, 5) : next(topics);
        }

        private int aLaw(Model model) {
            return between(0, Math.max(0, model.code.laws.size() - 1));
        }

        private long characters() {
            if (next(strange) == 0) {
                return next(2) == 0 ? next(300) : (long) next(1 << 30) << next(40);
            }
            while (waiting.length() < 8) {
                waiting += bill();
            }
            int many = next(strange / 4) == 0 ? 1 + next(8) : Math.min(waiting.length(), 8);
            long number = 0;
            for (int i = 0; i < many; i++) {
                number = number << 8 | waiting.charAt(i);
            }
            waiting = many == 8 && next(2) == 0 ? "" : waiting.substring(many);
            return number;
        }

        private String bill() {
            String text = "" + (1 + next(lengths)) + next(topics) + "fad".charAt(next(3));
            if (next(strange) == 0) {
                text = text.substring(next(2)) + "!/0a9:f61".charAt(next(9));
            }
            return next(4) == 0 ? text + "!" : text;
        }
    }

    // ---- the model

    private record Bill(int length, int topic, int stance, int law) {
        Bill naming(int other) {
            return new Bill(length, topic, stance, other);
        }
    }

    /** A law; ended is the session in which it was repealed, or null. */
    private record Law(int number, Bill bill, int made, Integer ended, int by) {
        boolean inForce() {
            return ended == null;
        }

        boolean isLike(Bill other) {
            return bill.naming(NONE).equals(other.naming(NONE));
        }

        boolean contradicts(Law other) {
            return inForce() && other.inForce() && bill.topic == other.bill.topic && bill.stance != other.bill.stance;
        }
    }

    /** What undo and the slots keep; nothing in it ever changes. */
    private record Code(List<Integer> settings, List<Integer> wishes, List<Law> laws, int session, int failed) {
        static Code first() {
            return new Code(List.of(3, 10, 2), IntStream.range(0, 30).mapToObj(i -> 3).collect(Collectors.toList()),
                    List.of(), 0, 0);
        }

        int memory() {
            return settings.get(2);
        }

        Code with(List<Law> others) {
            return new Code(settings, wishes, others, session, failed);
        }

        Code later() {
            return new Code(settings, wishes, laws, session + 1, failed);
        }

        Code oneMoreFailed() {
            return new Code(settings, wishes, laws, session, failed + 1);
        }

        List<Law> inForce() {
            return laws.stream().filter(Law::inForce).collect(Collectors.toList());
        }

        int wishOf(int councillor, int topic) {
            return wishes.get(6 * councillor + topic);
        }

        Optional<Law> holder(int topic) {
            return inForce().stream().filter(law -> law.bill.topic == topic)
                    .max(Comparator.comparingInt((Law law) -> law.bill.length).thenComparingInt(Law::number));
        }

        int held(int topic) {
            return holder(topic).map(law -> law.bill.stance).orElse(NONE);
        }

        boolean votesFor(int councillor, Bill bill) {
            int joy = 0;
            int wish = wishOf(councillor, bill.topic);
            if (wish == bill.stance) {
                joy++;
            } else if (wish != 3) {
                joy--;
            }
            if (bill.law != NONE) {
                Bill old = laws.get(bill.law).bill;
                int oldWish = wishOf(councillor, old.topic);
                if (oldWish == old.stance) {
                    joy--;
                } else if (oldWish != 3) {
                    joy++;
                }
            }
            return joy > 0 || joy == 0 && List.of(0, 2, 4).contains(councillor);
        }

        List<Integer> voters(Bill bill) {
            return IntStream.range(0, 5).filter(i -> votesFor(i, bill)).boxed().collect(Collectors.toList());
        }

        int reason(Bill bill) {
            Law named = bill.law == NONE ? null : laws.get(bill.law);
            boolean[] reasons = {
                inForce().stream().anyMatch(law -> law.isLike(bill) && law.number != bill.law),
                named != null && named.isLike(bill),
                laws.stream().anyMatch(law -> !law.inForce() && law.isLike(bill) && session - law.ended < memory()),
                named != null && (!named.inForce() || named.bill.length != bill.length),
                named == null && inForce().stream().anyMatch(law -> law.bill.length == bill.length),
                named == null && inForce().size() >= settings.get(1),
                voters(bill).size() < settings.get(0)};
            for (int i = 0; i < reasons.length; i++) {
                if (reasons[i]) {
                    return i + 1;
                }
            }
            return 0;
        }

        int best(Bill bill) {
            return inForce().stream().filter(law -> law.bill.length == bill.length)
                    .max(Comparator.comparingInt((Law law) -> voters(bill.naming(law.number)).size())
                            .thenComparingInt(law -> -law.number))
                    .map(Law::number).orElse(NONE);
        }

        boolean isFull() {
            return laws.size() >= 80;
        }

        Code ending(int number, int by) {
            List<Law> others = new ArrayList<>(laws);
            Law law = laws.get(number);
            others.set(number, new Law(number, law.bill, law.made, session, by));
            return with(others);
        }

        Code enacting(Bill bill) {
            Code then = bill.law == NONE ? this : ending(bill.law, laws.size());
            List<Law> others = new ArrayList<>(then.laws);
            others.add(new Law(laws.size(), bill, session, null, NONE));
            return then.with(others);
        }

        List<Bill> passing() {
            List<Bill> bills = new ArrayList<>();
            for (int i = 0; i < 162; i++) {
                Bill bill = new Bill(1 + i / 18, i / 3 % 6, i % 3, NONE);
                Bill best = bill.naming(best(bill));
                if (reason(best) == 0) {
                    bills.add(best);
                }
            }
            return bills;
        }
    }

    private static final class Model {
        private static final Pattern TEXT = Pattern.compile("([1-9][0-5][fad]!?)+");

        Code code = Code.first();
        private String pad = "";
        private final List<Code> history = new ArrayList<>();
        private final Code[] slots = new Code[2];

        private int change(Code then, int answer) {
            history.add(code);
            if (history.size() > 6) {
                history.remove(0);
            }
            code = then;
            return answer;
        }

        private static boolean in(int value, int least, int greatest) {
            return value >= least && value <= greatest;
        }

        private int error(Bill bill) {
            if (!in(bill.topic, 0, 5) || bill.law != NONE && !in(bill.law, 0, code.laws.size() - 1)) {
                return NO_SUCH;
            }
            return in(bill.length, 1, 9) && in(bill.stance, 0, 2) ? 0 : BAD_VALUE;
        }

        int set(int setting, int value) {
            boolean fine = setting == 0 && in(value, 1, 5) || setting == 1 && in(value, 1, 16)
                    || setting == 2 && in(value, 0, 9);
            if (!fine) {
                return BAD_VALUE;
            }
            List<Integer> others = new ArrayList<>(code.settings);
            int previous = others.set(setting, value);
            return change(new Code(others, code.wishes, code.laws, code.session, code.failed), previous);
        }

        int wish(int councillor, int topic, int wish) {
            if (!in(councillor, 0, 4) || !in(topic, 0, 5)) {
                return NO_SUCH;
            }
            if (!in(wish, 0, 3)) {
                return BAD_VALUE;
            }
            List<Integer> others = new ArrayList<>(code.wishes);
            int previous = others.set(6 * councillor + topic, wish);
            return change(new Code(code.settings, others, code.laws, code.session, code.failed), previous);
        }

        int propose(Bill bill) {
            int reason = why(bill);
            if (reason != 0) {
                return reason < 0 ? reason : NOT_POSSIBLE;
            }
            return change(code.enacting(bill), code.laws.size());
        }

        int repeal(int law) {
            if (!in(law, 0, code.laws.size() - 1)) {
                return NO_SUCH;
            }
            if (!code.laws.get(law).inForce()) {
                return NOT_POSSIBLE;
            }
            return change(code.ending(law, NONE), code.session - code.laws.get(law).made);
        }

        int endSession() {
            long made = code.laws.stream().filter(law -> law.made == code.session).count();
            return change(code.later(), (int) made);
        }

        int read() {
            if (fault() != NONE) {
                return BAD_TEXT;
            }
            Code then = code;
            for (String text : pad.split("(?<=!)|(?<=[fad])(?!!)")) {
                Bill bill = new Bill(text.charAt(0) - 48, text.charAt(1) - 48, "fad".indexOf(text.charAt(2)), NONE);
                Bill best = bill.naming(then.best(bill));
                then = then.isFull() || then.reason(best) != 0 ? then.oneMoreFailed() : then.enacting(best);
                then = text.endsWith("!") ? then.later() : then;
            }
            pad = "";
            return change(then, then.laws.size() - code.laws.size());
        }

        int law(int number, int what) {
            if (!in(number, 0, code.laws.size() - 1)) {
                return NO_SUCH;
            }
            Law law = code.laws.get(number);
            Optional<Law> holder = code.holder(law.bill.topic);
            int[] answers = {
                law.bill.length, law.bill.topic, law.bill.stance, law.made, Objects.requireNonNullElse(law.ended, NONE),
                law.bill.law, law.by, (int) code.laws.stream().filter(law::contradicts).count(),
                holder.isPresent() && holder.get().number == number ? 1 : 0};
            return in(what, 0, answers.length - 1) ? answers[what] : BAD_VALUE;
        }

        int topic(int topic, int what) {
            if (!in(topic, 0, 5)) {
                return NO_SUCH;
            }
            List<Law> laws = code.inForce().stream().filter(law -> law.bill.topic == topic).collect(Collectors.toList());
            int[] answers = {
                laws.size(), code.held(topic), code.holder(topic).map(Law::number).orElse(NONE), pairs(laws),
                (int) IntStream.range(0, 5).filter(i -> code.wishOf(i, topic) == code.held(topic)).count()};
            return in(what, 0, answers.length - 1) ? answers[what] : BAD_VALUE;
        }

        private static int pairs(List<Law> laws) {
            int ends = 0;
            for (Law law : laws) {
                ends += (int) laws.stream().filter(law::contradicts).count();
            }
            return ends / 2;
        }

        int councillor(int councillor, int what) {
            if (!in(councillor, 0, 4)) {
                return NO_SUCH;
            }
            if (in(what, 0, 5)) {
                return code.wishOf(councillor, what);
            }
            if (what == 6) {
                return IntStream.range(0, 6).filter(topic -> code.wishOf(councillor, topic) == code.held(topic))
                        .map(topic -> (int) Math.pow(2, topic)).sum();
            }
            return what != 7 ? BAD_VALUE : (int) code.inForce().stream()
                    .filter(law -> code.wishOf(councillor, law.bill.topic) == law.bill.stance).count();
        }

        int count(int what) {
            List<Law> inForce = code.inForce();
            int[] answers = {
                code.settings.get(0), code.settings.get(1), code.settings.get(2), code.session, code.laws.size(),
                inForce.size(), (int) code.laws.stream().filter(law -> !law.inForce()).count(),
                inForce.stream().mapToInt(law -> law.bill.length).sum(), pairs(inForce), pairs(inForce),
                (int) IntStream.range(0, 6).filter(topic -> code.held(topic) != NONE).count(),
                code.failed, pad.length(), history.size()};
            return in(what, 0, answers.length - 1) ? answers[what] : BAD_VALUE;
        }

        int why(Bill bill) {
            int error = error(bill);
            if (error != 0) {
                return error;
            }
            return code.isFull() ? TOO_MANY : code.reason(bill);
        }

        int votes(Bill bill) {
            int error = error(bill);
            return error != 0 ? error : code.voters(bill).stream().mapToInt(i -> 1 << i).sum();
        }

        int bestRepeal(Bill bill) {
            int error = error(bill);
            return error != 0 ? error : code.best(bill);
        }

        int longestBill(int topic, int stance) {
            int error = error(new Bill(1, topic, stance, NONE));
            if (error != 0) {
                return error;
            }
            return code.isFull() ? TOO_MANY : code.passing().stream()
                    .filter(bill -> bill.topic == topic && bill.stance == stance).mapToInt(Bill::length).max().orElse(NONE);
        }

        int bestBill() {
            if (code.isFull()) {
                return TOO_MANY;
            }
            return code.passing().stream()
                    .min(Comparator.comparingInt((Bill bill) -> -code.voters(bill).size()).thenComparingInt(Bill::length)
                            .thenComparingInt(Bill::topic).thenComparingInt(Bill::stance))
                    .map(bill -> 100 * bill.length + 10 * bill.topic + bill.stance).orElse(NONE);
        }

        int put(long characters) {
            StringBuilder text = new StringBuilder();
            for (int i = 0; i < 8; i++) {
                text.insert(0, (char) (characters >> 8 * i & 0xff));
            }
            while (text.length() > 0 && text.charAt(0) == 0) {
                text.deleteCharAt(0);
            }
            if (text.length() == 0 || text.chars().anyMatch(sign -> !in(sign, 33, 126))) {
                return BAD_VALUE;
            }
            if (pad.length() + text.length() > 60) {
                return TOO_MANY;
            }
            pad += text;
            return pad.length();
        }

        int wipe() {
            int length = pad.length();
            pad = "";
            return length;
        }

        /** The first index behind which no text could go on; such a text always ends after three signs more. */
        int fault() {
            if (TEXT.matcher(pad).matches()) {
                return NONE;
            }
            for (int i = 0; i < pad.length(); i++) {
                String start = pad.substring(0, i + 1);
                if (List.of("", "f", "0f").stream().noneMatch(end -> TEXT.matcher(start + end).matches())) {
                    return i;
                }
            }
            return pad.length();
        }

        int undo() {
            if (history.isEmpty()) {
                return NOT_POSSIBLE;
            }
            code = history.remove(history.size() - 1);
            return history.size();
        }

        int save(int slot) {
            if (!in(slot, 0, 1)) {
                return BAD_VALUE;
            }
            slots[slot] = code;
            return code.inForce().size();
        }

        int restore(int slot) {
            if (!in(slot, 0, 1)) {
                return BAD_VALUE;
            }
            return slots[slot] == null ? NOT_POSSIBLE : change(slots[slot], slots[slot].inForce().size());
        }
    }
}
