import java.util.ArrayDeque;
import java.util.ArrayList;
import java.util.Arrays;
import java.util.Deque;
import java.util.List;
import java.util.Random;

/**
 * Long runs of calls, compared with a model of the document that reckons otherwise: it leaps from start to start
 * where the program goes tick by tick, so that a slip in the one is not likely one in the other.
 */
public final class ModelTests {
    // Nothing is promised behind an object's 512th call.
    private static final int RUNS = 6000, CALLS = 512, CALLS_OF_COMPARING = 155;
    private static final String[] NAMES = {"set", "begin", "fill", "fillAll", "finish", "damage", "repair", "start", "pass",
        "slot", "word", "wear", "past", "count", "padSum", "ifStarted", "ifPassed", "nextStart", "lasts", "put", "wipe",
        "fault", "undo", "save", "restore"};
    private static final List<String> NEVER_FAIL = List.of("start", "ifStarted", "wipe");
    private static final int[] OFTEN = {3, 1, 5, 2, 3, 4, 4, 6, 12, 3, 1, 1, 4, 3, 1, 5, 8, 6, 2, 3, 1, 1, 4, 2, 2};

    public static void main(String[] args) {
        int[] answers = new int[NAMES.length];
        int[] errors = new int[NAMES.length];
        for (int run = 0; run < RUNS; run++) {
            new Walk(run, answers, errors).go();
        }
        for (int i = 0; i < NAMES.length; i++) {
            if (answers[i] == 0) {
                fail("no run had an answer without an error from " + NAMES[i]);
            }
            if (errors[i] == 0 && !NEVER_FAIL.contains(NAMES[i])) {
                fail("no run had an error from " + NAMES[i]);
            }
        }
        System.out.println(RUNS + " runs of at most " + CALLS + " calls answer as the model does");
        roomOfCalls();
    }

    private static void fail(String text) {
        System.out.println(text);
        System.exit(1);
    }

    /** All calls of a run live in one room, so no call may make objects again and again. */
    private static void roomOfCalls() {
        com.sun.management.ThreadMXBean threads =
            (com.sun.management.ThreadMXBean) java.lang.management.ManagementFactory.getThreadMXBean();
        long self = Thread.currentThread().getId();
        callOften(new TrialBoots());
        TrialBoots x = new TrialBoots();
        long before = threads.getThreadAllocatedBytes(self);
        callOften(x);
        long made = threads.getThreadAllocatedBytes(self) - before;
        if (made > 5_000) {
            fail("the calls of a run made objects of " + made + " bytes");
        }
        System.out.println("the calls of a run make no objects of their own");
    }

    private static void callOften(TrialBoots x) {
        for (int i = 0; i < CALLS / 16; i++) {
            x.begin(0, 0, 32, 0);
            x.put(0x3030);
            x.fillAll(0);
            x.repair(1);
            x.start(false);
            x.pass(500);
            x.damage(1, 1, 1);
            x.nextStart();
            x.ifPassed(500, 0);
            x.ifStarted(true);
            x.save(0);
            x.restore(0);
            x.slot(0, 6);
            x.past(0, 0);
            x.undo();
            x.undo();
        }
    }

    /** One run: the same calls on an object and on a model. */
    private static final class Walk {
        private final int run;
        private final int[] answers;
        private final int[] errors;
        private final Random random;
        private final TrialBoots program = new TrialBoots();
        private final Model model = new Model();
        private final List<String> calls = new ArrayList<>();
        private int left = CALLS;

        Walk(int run, int[] answers, int[] errors) {
            this.run = run;
            this.answers = answers;
            this.errors = errors;
            this.random = new Random(run);
        }

        /** Every fourth run is one of calls alone; in the others all that can be seen is compared on the way and at the end. */
        void go() {
            boolean isCompared = run % 4 != 0;
            while (left > (isCompared ? CALLS_OF_COMPARING : 0)) {
                if (random.nextInt(8) == 0) {
                    makeImage(random.nextInt(2), isCompared ? CALLS_OF_COMPARING : 0);
                } else {
                    callAny();
                }
                if (isCompared && left > 2 * CALLS_OF_COMPARING && random.nextInt(64) == 0) {
                    compareAll();
                }
            }
            if (isCompared) {
                compareAll();
            }
        }

        private void makeImage(int slot, int kept) {
            int[] words = new int[2 + (random.nextInt(3) == 0 ? random.nextInt(31) : 0)];
            if (left < kept + words.length + 2) {
                callAny();
                return;
            }
            for (int i = 0; i < words.length; i++) {
                words[i] = random.nextInt(3) == 0 ? random.nextInt(256) : random.nextInt(12);
            }
            int told = random.nextInt(12) == 0 ? random.nextInt(251) : Model.sumOf(words, words.length);
            call(1, slot, Math.min(99, model.least + random.nextInt(4) - random.nextInt(2)), words.length, told, 0);
            for (int word : words) {
                call(2, slot, word, 0, 0, 0);
            }
            call(4, slot, 0, 0, 0, 0);
        }

        private void callAny() {
            int at = random.nextInt(Arrays.stream(OFTEN).sum());
            int name = 0;
            while (at >= OFTEN[name]) {
                at -= OFTEN[name];
                name++;
            }
            int slot = around(0, 1);
            switch (name) {
                case 0: callSet(); break;
                case 1: call(1, slot, around(0, 99), around(2, 32), around(0, 250), 0); break;
                case 2: call(2, slot, around(0, 255), 0, 0, 0); break;
                case 5: call(5, slot, random.nextInt(3) == 0 ? around(0, 31) : random.nextInt(2), around(1, 255), 0, 0); break;
                case 7: case 15: call(name, random.nextInt(2), 0, 0, 0, 0); break;
                case 8: call(8, random.nextInt(3) == 0 ? around(1, 500) : around(1, 12), 0, 0, 0, 0); break;
                case 9: call(9, slot, around(0, 8), 0, 0, 0); break;
                case 10: call(10, around(0, 2), around(0, 31), 0, 0, 0); break;
                case 11: call(11, slot, around(0, 7), 0, 0, 0); break;
                case 12: call(12, around(0, 11), around(0, 2), 0, 0, 0); break;
                case 13: call(13, around(0, 12), 0, 0, 0, 0); break;
                case 16: call(16, random.nextInt(2) == 0 ? around(1, 500) : around(1, 30), around(0, 3), 0, 0, 0); break;
                case 18: call(18, slot, around(2, 32), 0, 0, 0); break;
                case 19: call(19, 0, 0, 0, 0, characters()); break;
                default: call(name, slot, 0, 0, 0, 0); break;
            }
        }

        private void callSet() {
            int setting = around(0, 2);
            int most = setting == 2 ? 60 : setting == 1 ? (random.nextInt(4) == 0 ? 99 : 6) : 9;
            call(0, setting, around(1, most), 0, 0, 0);
        }

        /** Mostly within, now and then one beside. */
        private int around(int least, int most) {
            return random.nextInt(40) == 0 ? (random.nextBoolean() ? least - 1 : most + 1)
                : least + random.nextInt(most - least + 1);
        }

        private long characters() {
            long packed = 0;
            int length = random.nextInt(20) == 0 ? random.nextInt(9) : 2 * (1 + random.nextInt(4));
            for (int i = 0; i < length; i++) {
                int code = random.nextInt(60) == 0 ? random.nextInt(256) : "0123456789abcdef".charAt(random.nextInt(16));
                packed = packed << 8 | code;
            }
            return packed;
        }

        private void call(int name, int a, int b, int c, int d, long characters) {
            calls.add(NAMES[name] + "(" + a + ", " + b + ", " + c + ", " + d + ", " + characters + ")");
            int got = ofProgram(name, a, b, c, d, characters);
            int want = model.answer(name, a, b, c, d, characters);
            if (got >= 0) {
                answers[name]++;
            } else {
                errors[name]++;
            }
            if (got != want) {
                differ(got, want);
            }
        }

        private void differ(long got, long want) {
            for (String call : calls) {
                System.out.println(call);
            }
            fail("run " + run + ": the program answers " + got + ", the model " + want);
        }

        private void compareAll() {
            for (int what = 0; what <= 12; what++) {
                compare(13, what, 0);
            }
            for (int slot = 0; slot < 2; slot++) {
                for (int what = 0; what < 9; what++) {
                    compare(9, slot, what);
                }
                for (int word = 0; word < 32; word++) {
                    compare(10, slot, word);
                }
                for (int page = 0; page < 8; page++) {
                    compare(11, slot, page);
                }
            }
            for (int back = 0; back < 13; back++) {
                for (int what = 0; what < 3; what++) {
                    compare(12, back, what);
                }
            }
            for (int name : new int[] {14, 15, 17, 21}) {
                compare(name, 0, 0);
            }
        }

        private void compare(int name, int a, int b) {
            int got = ofProgram(name, a, b, 0, 0, 0);
            int want = model.answer(name, a, b, 0, 0, 0);
            if (got != want) {
                calls.add("then " + NAMES[name] + "(" + a + ", " + b + ")");
                differ(got, want);
            }
        }

        private int ofProgram(int name, int a, int b, int c, int d, long characters) {
            left--;
            if (left < 0) {
                fail("run " + run + ": more than " + CALLS + " calls on one object");
            }
            switch (name) {
                case 0: return program.set(a, b);
                case 1: return program.begin(a, b, c, d);
                case 2: return program.fill(a, b);
                case 3: return program.fillAll(a);
                case 4: return program.finish(a);
                case 5: return program.damage(a, b, c);
                case 6: return program.repair(a);
                case 7: return program.start(a == 1);
                case 8: return program.pass(a);
                case 9: return program.slot(a, b);
                case 10: return program.word(a, b);
                case 11: return program.wear(a, b);
                case 12: return program.past(a, b);
                case 13: return program.count(a);
                case 14: return program.padSum();
                case 15: return program.ifStarted(a == 1);
                case 16: return program.ifPassed(a, b);
                case 17: return program.nextStart();
                case 18: return program.lasts(a, b);
                case 19: return program.put(characters);
                case 20: return program.wipe();
                case 21: return program.fault();
                case 22: return program.undo();
                case 23: return program.save(a);
                default: return program.restore(a);
            }
        }
    }

    private static final class Slot {
        String is = "empty";
        int version, length, told, tries, filled;
        int[] words = new int[32];
        int[] wear = new int[8];

        Slot() {
            Arrays.fill(words, 255);
        }

        Slot copy() {
            Slot copy = new Slot();
            copy.is = is;
            copy.version = version;
            copy.length = length;
            copy.told = told;
            copy.tries = tries;
            copy.filled = filled;
            copy.words = words.clone();
            copy.wear = wear.clone();
            return copy;
        }

        boolean isSound() {
            return Model.sumOf(words, length) == told;
        }

        int number() {
            return List.of("empty", "filling", "trial", "confirmed", "bad").indexOf(is);
        }

        int worst(int length) {
            return Arrays.stream(wear, 0, (length - 1) / 4 + 1).max().getAsInt();
        }

        void empty(int length) {
            for (int page = 0; page * 4 < length; page++) {
                wear[page]++;
                Arrays.fill(words, page * 4, page * 4 + 4, 255);
            }
        }
    }

    private static final class Model {
        private static final int NEVER = 1_000_000;
        int tries = 3, patience = 10, endurance = 20;
        Slot[] slots = {new Slot(), new Slot()};
        int runs = 2, ticks, hung, least, all;
        List<int[]> starts = new ArrayList<>();
        String pad = "";
        Deque<Model> history = new ArrayDeque<>();
        Model[] saved = new Model[2];

        static int sumOf(int[] words, int length) {
            // From the last word back: each word's part of the sum is its value by a power of 3.
            long sum = 0;
            long power = 1;
            for (int i = length - 1; i >= 0; i--) {
                sum += words[i] * power;
                power = power * 3 % 251;
            }
            return (int) ((sum + power) % 251);
        }

        Model copy() {
            Model copy = new Model();
            copy.take(this);
            return copy;
        }

        void take(Model from) {
            tries = from.tries;
            patience = from.patience;
            endurance = from.endurance;
            slots = new Slot[] {from.slots[0].copy(), from.slots[1].copy()};
            runs = from.runs;
            ticks = from.ticks;
            hung = from.hung;
            least = from.least;
            all = from.all;
            starts = new ArrayList<>(from.starts);
        }

        private void changes() {
            history.push(copy());
            if (history.size() > 6) {
                history.removeLast();
            }
        }

        private int wordThatRuns(int word) {
            return runs == 2 ? 0 : slots[runs].words[word];
        }

        private boolean runsOnTrial() {
            return runs != 2 && slots[runs].is.equals("trial");
        }

        private void start(int cause) {
            for (Slot slot : slots) {
                if (cause == 2 && slot.is.equals("filling")) {
                    slot.is = "empty";
                }
                if (slot.is.equals("trial") && slot.tries == 0) {
                    slot.is = "bad";
                }
            }
            runs = choose();
            if (runsOnTrial()) {
                slots[runs].tries--;
            }
            ticks = 0;
            hung = 0;
            starts.add(new int[] {runs, cause, all});
        }

        private int choose() {
            int best = 2;
            int rank = -1;
            for (int i = 1; i >= 0; i--) {
                int itsRank = slots[i].is.equals("trial") ? 1000 + slots[i].version
                    : slots[i].is.equals("confirmed") ? slots[i].version : -1;
                if (itsRank >= 0 && itsRank >= rank) {
                    best = i;
                    rank = itsRank;
                }
            }
            if (best == 2 || slots[best].isSound()) {
                return best;
            }
            slots[best].is = "bad";
            return choose();
        }

        /** In how many ticks it hangs, or NEVER. */
        private int untilHang() {
            return hung > 0 ? 1 - hung : wordThatRuns(0) > ticks ? wordThatRuns(0) - ticks : NEVER;
        }

        private int untilConfirm() {
            int until = wordThatRuns(1) > ticks ? wordThatRuns(1) - ticks : NEVER;
            return until < untilHang() ? until : NEVER;
        }

        private int untilStart() {
            int byHang = untilHang() + patience - 1;
            int byTrial = runsOnTrial() ? Math.max(1, 10 * patience - ticks) : NEVER;
            return Math.max(1, Math.min(byHang, untilConfirm() <= byTrial ? NEVER : byTrial));
        }

        private void leap(int count) {
            int hang = untilHang();
            if (untilConfirm() <= count && runsOnTrial()) {
                slots[runs].is = "confirmed";
                least = Math.max(least, slots[runs].version);
            }
            hung = Math.max(0, count - hang + 1);
            ticks += count;
            all += count;
        }

        private int pass(int count) {
            int before = starts.size();
            int left = count;
            while (left > 0) {
                int until = untilStart();
                leap(Math.min(left, until));
                if (until <= left) {
                    start(1);
                }
                left -= Math.min(left, until);
            }
            return starts.size() - before;
        }

        private int bad() {
            return (slots[0].is.equals("bad") ? 1 : 0) + (slots[1].is.equals("bad") ? 1 : 0);
        }

        private int fault() {
            for (int i = 0; i < pad.length(); i++) {
                if (!pad.substring(i, i + 1).matches("[0-9a-f]")) {
                    return i;
                }
            }
            return pad.matches("([0-9a-f]{2})+") ? -6 : pad.length();
        }

        private int[] padWords() {
            int[] words = new int[pad.length() / 2];
            for (int i = 0; i < words.length; i++) {
                words[i] = Integer.parseInt(pad.substring(2 * i, 2 * i + 2), 16);
            }
            return words;
        }

        int answer(int name, int a, int b, int c, int d, long characters) {
            boolean isSlot = a == 0 || a == 1;
            switch (name) {
                case 0: return set(a, b);
                case 1: return isSlot ? begin(slots[a], a, b, c, d) : -1;
                case 2: return isSlot ? fill(slots[a], b) : -1;
                case 3: return isSlot ? fillAll(slots[a]) : -1;
                case 4: return isSlot ? finish(slots[a]) : -1;
                case 5: return isSlot && b >= 0 && b < 32 ? damage(a, b, c) : -1;
                case 6: return isSlot ? repair(a) : -1;
                case 7: changes(); start(a == 1 ? 2 : 0); return runs;
                case 8: if (a < 1 || a > 500) { return -2; } changes(); return pass(a);
                case 9: return isSlot ? slot(slots[a], b) : -1;
                case 10: return a < 0 || a > 2 || b < 0 || b > 31 ? -1 : a == 2 ? (b < 2 ? 0 : 255) : slots[a].words[b];
                case 11: return isSlot && b >= 0 && b < 8 ? slots[a].wear[b] : -1;
                case 12: return past(a, b);
                case 13: return count(a);
                case 14: return fault() == -6 ? sumOf(padWords(), padWords().length) : -3;
                case 15: { Model then = copy(); then.start(a == 1 ? 2 : 0); return then.runs + 10 * (then.bad() - bad()); }
                case 16: return ifPassed(a, b);
                case 17: return untilStart() <= 2000 ? untilStart() : -6;
                case 18: return !isSlot ? -1 : b < 2 || b > 32 ? -2 : Math.max(0, endurance - slots[a].worst(b));
                case 19: return put(characters);
                case 20: { int length = pad.length(); pad = ""; return length; }
                case 21: return fault();
                case 22: if (history.isEmpty()) { return -5; } take(history.pop()); return history.size();
                case 23: if (!isSlot) { return -2; } saved[a] = copy(); return runs;
                default: return restore(a);
            }
        }

        private int set(int setting, int value) {
            int most = setting == 0 ? 9 : setting == 1 ? 99 : setting == 2 ? 60 : 0;
            if (value < 1 || value > most) {
                return -2;
            }
            changes();
            int old = setting == 0 ? tries : setting == 1 ? patience : endurance;
            tries = setting == 0 ? value : tries;
            patience = setting == 1 ? value : patience;
            endurance = setting == 2 ? value : endurance;
            return old;
        }

        private int begin(Slot slot, int number, int version, int length, int sum) {
            if (version < 0 || version > 99 || length < 2 || length > 32 || sum < 0 || sum > 250) {
                return -2;
            }
            if (number == runs || version < least || slot.worst(length) >= endurance) {
                return -5;
            }
            changes();
            slot.empty(length);
            slot.is = "filling";
            slot.version = version;
            slot.length = length;
            slot.told = sum;
            slot.tries = 0;
            slot.filled = 0;
            return slot.worst(length);
        }

        private int fill(Slot slot, int word) {
            if (word < 0 || word > 255) {
                return -2;
            }
            if (!slot.is.equals("filling") || slot.filled == slot.length) {
                return -5;
            }
            changes();
            slot.words[slot.filled++] = word;
            return slot.filled;
        }

        private int fillAll(Slot slot) {
            if (fault() != -6) {
                return -3;
            }
            if (!slot.is.equals("filling")) {
                return -5;
            }
            int[] words = padWords();
            if (slot.filled + words.length > slot.length) {
                return -4;
            }
            changes();
            System.arraycopy(words, 0, slot.words, slot.filled, words.length);
            slot.filled += words.length;
            pad = "";
            return slot.filled;
        }

        private int finish(Slot slot) {
            if (!slot.is.equals("filling") || slot.filled < slot.length) {
                return -5;
            }
            changes();
            slot.is = slot.isSound() ? "trial" : "bad";
            slot.tries = slot.isSound() ? tries : 0;
            return slot.isSound() ? 1 : 0;
        }

        private int damage(int slot, int word, int bits) {
            if (bits < 1 || bits > 255) {
                return -2;
            }
            changes();
            slots[slot].words[word] = slots[slot].words[word] ^ bits;
            return slots[slot].words[word];
        }

        private int repair(int number) {
            Slot slot = slots[number];
            if (runs != 2 || slot.wear[0] >= endurance || least > 0) {
                return -5;
            }
            changes();
            slot.empty(1);
            slot.words[0] = 0;
            slot.words[1] = 0;
            slot.is = "confirmed";
            slot.version = 0;
            slot.length = 2;
            slot.told = 9;
            slot.tries = 0;
            slot.filled = 2;
            return slot.wear[0];
        }

        private int slot(Slot slot, int what) {
            if (what < 0 || what > 8) {
                return -2;
            }
            int sum = slot.length == 0 ? -6 : sumOf(slot.words, slot.length);
            int worn = (int) Arrays.stream(slot.wear).filter(wear -> wear >= endurance).count();
            return new int[] {slot.number(), slot.version, slot.length, slot.told, slot.tries, slot.filled, sum, slot.worst(32),
                worn}[what];
        }

        private int past(int back, int what) {
            if (back < 0 || back > 11 || back >= starts.size()) {
                return -1;
            }
            return what < 0 || what > 2 ? -2 : starts.get(starts.size() - 1 - back)[what];
        }

        private int count(int what) {
            if (what < 0 || what > 12) {
                return -2;
            }
            int byWatchdog = (int) starts.stream().filter(start -> start[1] == 1).count();
            return new int[] {runs, ticks, hung, least, starts.size(), byWatchdog, all, 9, tries, patience, endurance,
                pad.length(), history.size()}[what];
        }

        private int ifPassed(int count, int what) {
            if (count < 1 || count > 500 || what < 0 || what > 3) {
                return -2;
            }
            Model then = copy();
            int started = then.pass(count);
            return new int[] {started, then.runs, then.slots[0].number(), then.slots[1].number()}[what];
        }

        private int put(long characters) {
            String text = "";
            for (int shift = 56; shift >= 0; shift -= 8) {
                int code = (int) (characters >>> shift & 255);
                if (code == 0 && text.isEmpty()) {
                    continue;
                }
                if (code < 33 || code > 126) {
                    return -2;
                }
                text += (char) code;
            }
            if (text.isEmpty()) {
                return -2;
            }
            if (pad.length() + text.length() > 64) {
                return -4;
            }
            pad += text;
            return pad.length();
        }

        private int restore(int place) {
            if (place < 0 || place > 1) {
                return -2;
            }
            if (saved[place] == null) {
                return -5;
            }
            changes();
            take(saved[place]);
            return runs;
        }
    }
}
