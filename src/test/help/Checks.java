import java.util.function.Supplier;
import java.util.function.ToIntFunction;

/**
 * What the tests share: short ways into a state, views of all that can be seen, and the count of wrong answers.
 * The constants are written out as numbers, so that the tests do not lean on those of the program.
 */
abstract class Checks {
    static final int NO_SUCH = -1, BAD_VALUE = -2, BAD_TEXT = -3, TOO_MANY = -4, NOT_POSSIBLE = -5, NONE = -6;
    static final int TRIES = 0, PATIENCE = 1, ENDURANCE = 2;
    static final int EMPTY = 0, FILLING = 1, TRIAL = 2, CONFIRMED = 3, BAD = 4;
    static final int STATE = 0, VERSION = 1, LENGTH = 2, TOLD = 3, LEFT = 4, FILLED = 5, SUM = 6, WEAR = 7, WORN = 8;
    static final int RUNS = 0, TICKS = 1, HUNG = 2, LEAST = 3, STARTS = 4, WATCHDOG = 5, ALL_TICKS = 6, GOLDEN_SUM = 7;
    static final int SETTINGS = 8, PAD = 11, UNDOABLE = 12;
    static final int AREA = 0, CAUSE = 1, WHEN = 2;
    static final int BY_HAND = 0, BY_WATCHDOG = 1, BY_POWER = 2;
    static final int GOLDEN = 2;
    static final int MIN = Integer.MIN_VALUE, MAX = Integer.MAX_VALUE;

    private static int wrong = 0;
    private static String tested = "";

    /** A call of one method that leaves one of its arguments open. */
    interface CallWith {
        int answer(TrialBoots x, int value);
    }

    // ---- answers

    static void testing(String what) {
        tested = what;
    }

    static void due(String what, long got, long want) {
        if (got != want) {
            wrong++;
            System.out.println(tested + ": " + what + " is " + got + ", due is " + want);
        }
    }

    static void same(String what, String got, String want) {
        if (!got.equals(want)) {
            wrong++;
            System.out.println(tested + ": " + what + "\n  is  " + got + "\n  due " + want);
        }
    }

    static void end(String good) {
        System.out.println(wrong == 0 ? good : wrong + " answers are not as due");
        if (wrong != 0) {
            System.exit(1);
        }
    }

    /** The call answers the error, and the object is then in all as one without this call. */
    static void refused(String what, Supplier<TrialBoots> make, ToIntFunction<TrialBoots> call, int error) {
        due(what, call.applyAsInt(make.get()), error);
        unchanged(what, make, call);
    }

    static void refusedFor(String what, Supplier<TrialBoots> make, CallWith call, int error, int... values) {
        for (int value : values) {
            refused(what + " " + value, make, x -> call.answer(x, value), error);
        }
    }

    static void unchanged(String what, Supplier<TrialBoots> make, ToIntFunction<TrialBoots> call) {
        same(what + " changes nothing", everything(behind(make, call)), everything(make));
    }

    static void changed(String what, Supplier<TrialBoots> make, ToIntFunction<TrialBoots> call, int answer, int undoable) {
        TrialBoots x = make.get();
        due(what, call.applyAsInt(x), answer);
        due(what + " is recorded", x.count(UNDOABLE), undoable);
    }

    static Supplier<TrialBoots> behind(Supplier<TrialBoots> make, ToIntFunction<TrialBoots> call) {
        return () -> {
            TrialBoots x = make.get();
            call.applyAsInt(x);
            return x;
        };
    }

    // ---- short ways into a state

    static int sumOf(int... words) {
        int sum = 1;
        for (int word : words) {
            sum = (3 * sum + word) % 251;
        }
        return sum;
    }

    static void beginAndFill(TrialBoots x, int slot, int version, int told, int... words) {
        x.begin(slot, version, words.length, told);
        for (int word : words) {
            x.fill(slot, word);
        }
    }

    static void onTrial(TrialBoots x, int slot, int version, int... words) {
        beginAndFill(x, slot, version, sumOf(words), words);
        due("finish of a sound image", x.finish(slot), 1);
    }

    static void bad(TrialBoots x, int slot, int version) {
        beginAndFill(x, slot, version, sumOf(0, 1), 0, 0);
        due("finish of an unsound image", x.finish(slot), 0);
    }

    /** The slot runs then. */
    static void confirmed(TrialBoots x, int slot, int version) {
        onTrial(x, slot, version, 0, 1);
        due("the slot to be confirmed runs", x.start(false), slot);
        x.pass(1);
        due("the slot is confirmed", x.slot(slot, STATE), CONFIRMED);
    }

    /** The slot 0 runs on trial, with the version 1. */
    static TrialBoots trialOf(int patience, int hangs, int confirms) {
        TrialBoots x = new TrialBoots();
        x.set(PATIENCE, patience);
        onTrial(x, 0, 1, hangs, confirms);
        due("the slot on trial runs", x.start(false), 0);
        return x;
    }

    /** The golden copy runs, each slot is in the state; possible for all states but two that are being confirmed. */
    static TrialBoots goldenWith(int slot, int state) {
        TrialBoots x = new TrialBoots();
        switch (state) {
            case FILLING: beginAndFill(x, slot, 3, 7, 1, 2); break;
            case TRIAL: onTrial(x, slot, 3, 0, 2); break;
            case CONFIRMED: x.repair(slot); break;
            case BAD: bad(x, slot, 3); break;
            default: break;
        }
        due("how the slot is", x.slot(slot, STATE), state);
        return x;
    }

    /** Both slots have been confirmed with these versions; the later one of them runs. */
    static TrialBoots bothConfirmed(int version0, int version1) {
        TrialBoots x = new TrialBoots();
        onTrial(x, 0, version0, 0, 1);
        onTrial(x, 1, version1, 0, 1);
        for (int i = 0; i < 2; i++) {
            x.start(false);
            x.pass(1);
        }
        due("both are confirmed", 10 * x.slot(0, STATE) + x.slot(1, STATE), 33);
        return x;
    }

    /** Golden runs; one slot is being filled, the other on trial; both places and the history are full. */
    static TrialBoots busy() {
        TrialBoots x = new TrialBoots();
        x.set(ENDURANCE, 7);
        x.save(0);
        x.pass(3);
        x.start(false);
        onTrial(x, 1, 8, 5, 6);
        x.save(1);
        beginAndFill(x, 0, 4, 77, 9, 8);
        x.begin(0, 4, 3, 77);
        x.fill(0, 9);
        putText(x, "0aff");
        return x;
    }

    /** The slot 0 runs, confirmed, with the version 5; the other one is being filled and lacks two of three words. */
    static TrialBoots running() {
        TrialBoots x = new TrialBoots();
        confirmed(x, 0, 5);
        x.begin(1, 6, 3, 0);
        x.fill(1, 1);
        x.save(0);
        return x;
    }

    /** The slot 0 runs, confirmed, and hangs in every first tick, with a PATIENCE of 1: each tick brings a start. */
    static TrialBoots alwaysHanging() {
        TrialBoots x = trialOf(1, 0, 4);
        x.pass(4);
        // The sum is the same with the words 1 and 1 as with 0 and 4.
        x.damage(0, 0, 1);
        x.damage(0, 1, 5);
        due("it is sound", x.start(false), 0);
        return x;
    }

    /** Golden runs; the page 0 of the slot 0 has a wear of 2, as great as ENDURANCE. */
    static TrialBoots wornOut() {
        TrialBoots x = new TrialBoots();
        x.set(ENDURANCE, 2);
        x.begin(0, 0, 4, 0);
        x.begin(0, 0, 4, 0);
        return x;
    }

    static long packed(String text) {
        long characters = 0;
        for (int i = 0; i < text.length(); i++) {
            characters = characters << 8 | text.charAt(i);
        }
        return characters;
    }

    static void putText(TrialBoots x, String text) {
        for (int i = 0; i < text.length(); i += 8) {
            x.put(packed(text.substring(i, Math.min(text.length(), i + 8))));
        }
    }

    static TrialBoots withPad(String text) {
        TrialBoots x = new TrialBoots();
        putText(x, text);
        return x;
    }

    // ---- views; nothing is promised behind an object's 512th call, so one object is viewed three times at most

    /** All that can be seen, except the pad and the history: 148 calls. */
    static String view(TrialBoots x) {
        StringBuilder seen = new StringBuilder();
        for (int what = 0; what <= 10; what++) {
            seen.append(x.count(what)).append(' ');
        }
        for (int back = 0; back < 13; back++) {
            for (int what = 0; what < 3; what++) {
                seen.append(x.past(back, what)).append(' ');
            }
        }
        for (int slot = 0; slot < 2; slot++) {
            seen.append("| ");
            for (int what = 0; what < 9; what++) {
                seen.append(x.slot(slot, what)).append(' ');
            }
            for (int word = 0; word < 32; word++) {
                seen.append(x.word(slot, word)).append(' ');
            }
            for (int page = 0; page < 8; page++) {
                seen.append(x.wear(slot, page)).append(' ');
            }
        }
        return seen.toString();
    }

    static String viewAndPad(TrialBoots x) {
        return view(x) + "| " + x.count(PAD) + " " + x.count(UNDOABLE) + " " + x.padSum() + " " + x.fault();
    }

    /** All that can be seen, the states of the history, the saved ones and the words of the pad, too. */
    static String everything(Supplier<TrialBoots> make) {
        StringBuilder seen = new StringBuilder(viewAndPad(make.get()));
        for (int steps = 1; steps <= 7; steps++) {
            TrialBoots x = make.get();
            int left = 0;
            for (int i = 0; i < steps; i++) {
                left = x.undo();
            }
            seen.append("| undone ").append(left).append(' ').append(view(x));
        }
        for (int place = 0; place < 2; place++) {
            TrialBoots x = make.get();
            seen.append("| restored ").append(x.restore(place)).append(' ').append(view(x));
        }
        return seen.append("| pad ").append(wordsOfPad(make.get())).toString();
    }

    private static String wordsOfPad(TrialBoots x) {
        int slot = x.count(RUNS) == 0 ? 1 : 0;
        x.set(ENDURANCE, 60);
        x.begin(slot, 99, 32, 0);
        StringBuilder seen = new StringBuilder().append(x.fillAll(slot));
        for (int word = 0; word < 32; word++) {
            seen.append(' ').append(x.word(slot, word));
        }
        return seen.toString();
    }
}
