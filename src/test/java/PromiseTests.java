import java.util.Arrays;

/** The promises 1 to 26 of ../shared/DOC.md, each with ordinary calls, edges and wrong ones. */
public final class PromiseTests extends Checks {
    public static void main(String[] args) {
        newObject();
        settings();
        begin();
        fill();
        fillAll();
        finish();
        damage();
        repair();
        startChoice();
        startTriesAndPower();
        passHangs();
        passConfirms();
        passTrialEnds();
        slot();
        word();
        wear();
        past();
        count();
        padSum();
        ifStarted();
        ifPassed();
        nextStart();
        lasts();
        put();
        wipe();
        fault();
        undo();
        save();
        restore();
        end("all promises hold");
    }

    // ---- the promises

    private static void newObject() {
        testing("1 a new object");
        TrialBoots x = new TrialBoots();
        int[] counts = {2, 0, 0, 0, 0, 0, 0, 9, 3, 10, 20, 0, 0};
        for (int what = 0; what < counts.length; what++) {
            due("count " + what, x.count(what), counts[what]);
        }
        int[] slots = {EMPTY, 0, 0, 0, 0, 0, NONE, 0, 0};
        for (int slot = 0; slot < 2; slot++) {
            for (int what = 0; what < slots.length; what++) {
                due("slot " + slot + ", " + what, x.slot(slot, what), slots[what]);
            }
            for (int word = 0; word < 32; word++) {
                due("word", x.word(slot, word), 255);
            }
            for (int page = 0; page < 8; page++) {
                due("wear", x.wear(slot, page), 0);
            }
        }
        due("past", x.past(0, 0), NO_SUCH);
        due("undo", x.undo(), NOT_POSSIBLE);
        due("restore", x.restore(0), NOT_POSSIBLE);
        TrialBoots y = new TrialBoots();
        x.set(TRIES, 9);
        x.damage(0, 0, 1);
        due("another object's settings", y.count(8), 3);
        due("another object's words", y.word(0, 0), 255);
    }

    private static void settings() {
        testing("2 set");
        int[] first = {3, 10, 20};
        int[] most = {9, 99, 60};
        for (int setting = 0; setting < 3; setting++) {
            TrialBoots x = new TrialBoots();
            due("first value", x.set(setting, most[setting]), first[setting]);
            due("greatest value", x.count(8 + setting), most[setting]);
            due("to the least", x.set(setting, 1), most[setting]);
            String before = viewAndPad(x);
            due("below", x.set(setting, 0), BAD_VALUE);
            due("above", x.set(setting, most[setting] + 1), BAD_VALUE);
            due("far below", x.set(setting, MIN), BAD_VALUE);
            due("far above", x.set(setting, MAX), BAD_VALUE);
            same("a wrong set changes nothing", viewAndPad(x), before);
            due("to the same", x.set(setting, 1), 1);
            due("each set is a change", x.count(UNDOABLE), 3);
        }
        TrialBoots x = new TrialBoots();
        for (int setting : new int[] {-1, 3, MIN, MAX}) {
            due("no such setting", x.set(setting, 1), BAD_VALUE);
        }
        due("a wrong one is none", x.count(UNDOABLE), 0);
        x.set(TRIES, 1);
        onTrial(x, 0, 0, 0, 0);
        due("TRIES count at the finish", x.slot(0, LEFT), 1);
        x.set(TRIES, 7);
        due("and not later", x.slot(0, LEFT), 1);
    }

    private static void begin() {
        testing("3 begin");
        TrialBoots x = new TrialBoots();
        for (int word = 0; word < 32; word++) {
            x.damage(1, word, 15);
        }
        due("first begin", x.begin(1, 7, 5, 250), 1);
        due("changes", x.count(UNDOABLE), 6);
        int[] due = {FILLING, 7, 5, 250, 0, 0, sumOf(255, 255, 255, 255, 255), 1, 0};
        for (int what = 0; what < due.length; what++) {
            due("slot " + what, x.slot(1, what), due[what]);
        }
        for (int word = 0; word < 32; word++) {
            due("word " + word, x.word(1, word), word < 8 ? 255 : 240);
        }
        for (int page = 0; page < 8; page++) {
            due("wear", x.wear(1, page), page < 2 ? 1 : 0);
        }
        due("page 0 alone", x.begin(1, 7, 4, 0), 2);
        due("the other page", x.wear(1, 1), 1);
        due("all pages", x.begin(1, 0, 32, 0), 3);
        due("last page", x.wear(1, 7), 1);
        due("the other slot", x.wear(0, 0), 0);
        beginErrors(x);
        beginNotPossible();
        beginsAgain();
    }

    private static void beginErrors(TrialBoots x) {
        String before = viewAndPad(x);
        for (int slot : new int[] {-1, 2, 3, MIN, MAX}) {
            due("no such slot", x.begin(slot, -1, 2, 0), NO_SUCH);
        }
        for (int version : new int[] {-1, 100, MIN, MAX}) {
            due("version", x.begin(0, version, 2, 0), BAD_VALUE);
        }
        for (int length : new int[] {1, 33, 0, -1, MIN, MAX}) {
            due("length", x.begin(0, 0, length, 0), BAD_VALUE);
        }
        for (int sum : new int[] {-1, 251, MIN, MAX}) {
            due("sum", x.begin(0, 0, 2, sum), BAD_VALUE);
        }
        same("errors change nothing", viewAndPad(x), before);
        due("greatest values", x.begin(0, 99, 32, 250), 1);
    }

    private static void beginNotPossible() {
        TrialBoots x = new TrialBoots();
        confirmed(x, 0, 5);
        String before = viewAndPad(x);
        due("the running slot", x.begin(0, 5, 2, 0), NOT_POSSIBLE);
        due("bad value goes first", x.begin(0, 5, 1, 0), BAD_VALUE);
        due("below the least version", x.begin(1, 4, 2, 0), NOT_POSSIBLE);
        same("errors change nothing", viewAndPad(x), before);
        due("the least version", x.begin(1, 5, 2, 0), 1);
        x.set(ENDURANCE, 2);
        due("the last time", x.begin(1, 5, 2, 0), 2);
        due("worn out", x.begin(1, 5, 2, 0), NOT_POSSIBLE);
        due("worn out among others", x.begin(1, 5, 32, 0), NOT_POSSIBLE);
        x.set(ENDURANCE, 3);
        due("no more worn out", x.begin(1, 5, 32, 0), 3);
        x.set(ENDURANCE, 2);
        due("worn out again", x.begin(1, 5, 2, 0), NOT_POSSIBLE);

        TrialBoots y = new TrialBoots();
        y.set(ENDURANCE, 1);
        y.begin(0, 0, 4, 0);
        due("wear of page 0 only", y.slot(0, WORN), 1);
        due("the other slot has its own wear", y.begin(1, 0, 4, 0), 1);
    }

    private static void beginsAgain() {
        TrialBoots x = new TrialBoots();
        onTrial(x, 0, 3, 0, 0);
        due("a slot on trial", x.begin(0, 2, 3, 4), 2);
        due("has no tries", x.slot(0, LEFT), 0);
        due("has no words", x.slot(0, FILLED), 0);
        x.fill(0, 1);
        due("a slot that is being filled", x.begin(0, 1, 2, 4), 3);
        due("has no words", x.slot(0, FILLED), 0);
        due("its word is emptied", x.word(0, 0), 255);
    }

    private static void fill() {
        testing("4 fill");
        TrialBoots x = new TrialBoots();
        due("an empty slot", x.fill(0, 0), NOT_POSSIBLE);
        x.begin(0, 0, 3, sumOf(0, 255, 17));
        due("least word", x.fill(0, 0), 1);
        due("greatest word", x.fill(0, 255), 2);
        due("filled", x.slot(0, FILLED), 2);
        x.damage(0, 2, 255);
        due("a damaged word", x.fill(0, 17), 3);
        due("word 0", x.word(0, 0), 0);
        due("word 1", x.word(0, 1), 255);
        due("word 2", x.word(0, 2), 17);
        due("word 3", x.word(0, 3), 255);
        String before = viewAndPad(x);
        due("all words are there", x.fill(0, 1), NOT_POSSIBLE);
        for (int slot : new int[] {-1, 2, MIN, MAX}) {
            due("no such slot", x.fill(slot, -1), NO_SUCH);
        }
        for (int word : new int[] {-1, 256, MIN, MAX}) {
            due("word", x.fill(0, word), BAD_VALUE);
        }
        same("errors change nothing", viewAndPad(x), before);
        x.finish(0);
        due("on trial", x.fill(0, 1), NOT_POSSIBLE);
        x.begin(1, 0, 32, 0);
        for (int i = 1; i <= 32; i++) {
            due("word by word", x.fill(1, i), i);
        }
        due("the 33rd", x.fill(1, 1), NOT_POSSIBLE);
        due("the last word", x.word(1, 31), 32);
        due("each is a change", x.undo(), 5);
        due("undone", x.slot(1, FILLED), 31);
    }

    private static void fillAll() {
        testing("5 fillAll");
        TrialBoots x = new TrialBoots();
        for (int slot : new int[] {-1, 2, MIN, MAX}) {
            due("no such slot", x.fillAll(slot), NO_SUCH);
        }
        due("an empty pad", x.fillAll(0), BAD_TEXT);
        putText(x, "00f");
        due("half a word, and the slot is empty", x.fillAll(0), BAD_TEXT);
        putText(x, "f");
        String before = viewAndPad(x);
        due("an empty slot", x.fillAll(0), NOT_POSSIBLE);
        same("errors change nothing", viewAndPad(x), before);
        fillAllInParts();
    }

    private static void fillAllInParts() {
        TrialBoots x = withPad("00ff");
        x.begin(0, 0, 4, 0);
        x.fill(0, 9);
        due("two words", x.fillAll(0), 3);
        due("the pad is empty", x.count(PAD), 0);
        due("word 0", x.word(0, 0), 9);
        due("word 1", x.word(0, 1), 0);
        due("word 2", x.word(0, 2), 255);
        putText(x, "1a2b");
        String before = viewAndPad(x);
        due("one too many", x.fillAll(0), TOO_MANY);
        same("none is filled in", viewAndPad(x), before);
        due("undo", x.undo(), 2);
        due("undone", x.slot(0, FILLED), 1);
        due("the pad is not undone", x.count(PAD), 4);
        due("fill again", x.fillAll(0), 3);
        due("word 1", x.word(0, 1), 0x1a);
        due("word 2", x.word(0, 2), 0x2b);
        x.fill(0, 1);
        putText(x, "00");
        due("a full slot", x.fillAll(0), TOO_MANY);
        x.begin(1, 0, 32, 0);
        x.wipe();
        putText(x, "000102030405060708090a0b0c0d0e0f101112131415161718191a1b1c1d1e1f");
        due("32 words", x.fillAll(1), 32);
        for (int word = 0; word < 32; word++) {
            due("word", x.word(1, word), word);
        }
    }

    private static void finish() {
        testing("6 finish");
        TrialBoots x = new TrialBoots();
        for (int slot : new int[] {-1, 2, MIN, MAX}) {
            due("no such slot", x.finish(slot), NO_SUCH);
        }
        due("an empty slot", x.finish(0), NOT_POSSIBLE);
        x.set(TRIES, 5);
        x.begin(0, 1, 3, sumOf(4, 5, 6));
        x.fill(0, 4);
        x.fill(0, 5);
        String before = viewAndPad(x);
        due("a word lacks", x.finish(0), NOT_POSSIBLE);
        same("an error changes nothing", viewAndPad(x), before);
        x.fill(0, 6);
        due("a sound image", x.finish(0), 1);
        due("is on trial", x.slot(0, STATE), TRIAL);
        due("tries", x.slot(0, LEFT), 5);
        due("again", x.finish(0), NOT_POSSIBLE);
        due("undo", x.undo(), 5);
        due("undone", x.slot(0, STATE), FILLING);
        x.damage(0, 1, 1);
        due("a damaged image", x.finish(0), 0);
        due("is bad", x.slot(0, STATE), BAD);
        due("has no tries", x.slot(0, LEFT), 0);
        due("is recorded", x.undo(), 5);
        due("undone", x.slot(0, STATE), FILLING);
        x.damage(0, 1, 1);
        x.damage(0, 3, 1);
        due("words behind the image do not matter", x.finish(0), 1);
    }

    private static void damage() {
        testing("7 damage");
        TrialBoots x = new TrialBoots();
        due("one bit", x.damage(0, 0, 1), 254);
        due("all bits", x.damage(0, 0, 255), 1);
        due("last word", x.damage(1, 31, 128), 127);
        due("seen", x.word(1, 31), 127);
        due("other slot", x.word(0, 31), 255);
        due("changes", x.count(UNDOABLE), 3);
        String before = viewAndPad(x);
        for (int slot : new int[] {-1, 2, MIN, MAX}) {
            due("no such slot", x.damage(slot, 0, 0), NO_SUCH);
        }
        for (int word : new int[] {-1, 32, MIN, MAX}) {
            due("no such word", x.damage(0, word, 0), NO_SUCH);
        }
        for (int bits : new int[] {0, 256, -1, MIN, MAX}) {
            due("bits", x.damage(0, 0, bits), BAD_VALUE);
        }
        same("errors change nothing", viewAndPad(x), before);
        onTrial(x, 0, 0, 0, 0);
        x.damage(0, 1, 3);
        due("sum now", x.slot(0, SUM), sumOf(0, 3));
        due("told sum", x.slot(0, TOLD), sumOf(0, 0));
        due("it stays on trial until a start", x.slot(0, STATE), TRIAL);
        due("start", x.start(false), 2);
        due("it is bad then", x.slot(0, STATE), BAD);
        due("its tries stay", x.slot(0, LEFT), 3);
    }

    private static void repair() {
        testing("8 repair");
        TrialBoots x = new TrialBoots();
        x.set(ENDURANCE, 2);
        beginAndFill(x, 0, 44, 0, 1, 2, 3, 4, 5);
        x.finish(0);
        due("repair", x.repair(0), 2);
        int[] due = {CONFIRMED, 0, 2, 9, 0, 2, 9, 2, 1};
        for (int what = 0; what < due.length; what++) {
            due("slot " + what, x.slot(0, what), due[what]);
        }
        int[] words = {0, 0, 255, 255, 5, 255};
        for (int word = 0; word < words.length; word++) {
            due("word " + word, x.word(0, word), words[word]);
        }
        due("wear of page 1", x.wear(0, 1), 1);
        String before = viewAndPad(x);
        due("worn out", x.repair(0), NOT_POSSIBLE);
        for (int slot : new int[] {-1, 2, MIN, MAX}) {
            due("no such slot", x.repair(slot), NO_SUCH);
        }
        same("errors change nothing", viewAndPad(x), before);
        due("an empty slot", x.repair(1), 1);
        due("it starts", x.start(false), 0);
        due("the golden copy does not run", x.repair(1), NOT_POSSIBLE);
        due("undo", x.undo(), 5);
        due("undo", x.undo(), 4);
        due("undone", x.slot(1, STATE), EMPTY);
        repairLosesTries();
        repairNeedsLeastVersion();
    }

    private static void repairLosesTries() {
        TrialBoots x = new TrialBoots();
        onTrial(x, 0, 9, 1, 1);
        due("a slot on trial", x.repair(0), 2);
        due("has no tries", x.slot(0, LEFT), 0);
        due("is confirmed", x.slot(0, STATE), CONFIRMED);
        x.begin(1, 3, 8, 0);
        due("a slot that is being filled", x.repair(1), 2);
        due("is so no more", x.fill(1, 0), NOT_POSSIBLE);
        due("filled", x.slot(1, FILLED), 2);
    }

    private static void repairNeedsLeastVersion() {
        TrialBoots x = new TrialBoots();
        confirmed(x, 0, 0);
        x.damage(0, 0, 1);
        due("golden runs", x.start(false), 2);
        due("least version 0", x.repair(0), 2);
        TrialBoots y = new TrialBoots();
        confirmed(y, 0, 1);
        y.damage(0, 0, 1);
        due("golden runs", y.start(false), 2);
        due("least version 1", y.repair(0), NOT_POSSIBLE);
        due("least version 1, other slot", y.repair(1), NOT_POSSIBLE);
    }

    private static void startChoice() {
        testing("9 start");
        TrialBoots x = new TrialBoots();
        due("golden", x.start(false), 2);
        due("is recorded", x.count(UNDOABLE), 1);
        x.repair(1);
        due("confirmed", x.start(true), 1);
        x.damage(1, 0, 1);
        x.start(false);
        due("back to golden", x.count(RUNS), 2);
        due("unsound is bad", x.slot(1, STATE), BAD);

        TrialBoots y = new TrialBoots();
        confirmed(y, 0, 9);
        onTrial(y, 1, 9, 0, 0);
        y.start(false);
        due("on trial goes ahead of confirmed", y.count(RUNS), 1);
        due("ticks", y.count(TICKS), 0);

        TrialBoots z = new TrialBoots();
        onTrial(z, 0, 4, 1, 2);
        onTrial(z, 1, 5, 1, 2);
        due("the greater version", z.start(false), 1);
        z.damage(1, 1, 4);
        due("then the other", z.start(false), 0);
        due("the greater one is bad", z.slot(1, STATE), BAD);
        due("it keeps its tries", z.slot(1, LEFT), 2);
        due("the other has one less", z.slot(0, LEFT), 2);
        z.damage(0, 1, 4);
        due("then golden", z.start(false), 2);

        TrialBoots w = new TrialBoots();
        onTrial(w, 1, 5, 1, 2);
        onTrial(w, 0, 5, 1, 2);
        due("of both the slot 0", w.start(false), 0);
        due("the slot 1 has all its tries", w.slot(1, LEFT), 3);

        TrialBoots v = new TrialBoots();
        v.repair(1);
        v.repair(0);
        due("of both confirmed the slot 0", v.start(false), 0);
        v.damage(0, 1, 1);
        due("chosen anew", v.start(false), 1);

        TrialBoots u = new TrialBoots();
        confirmed(u, 1, 0);
        onTrial(u, 0, 3, 0, 1);
        u.start(false);
        u.pass(1);
        onTrial(u, 1, 8, 0, 1);
        u.start(false);
        u.pass(1);
        due("both are confirmed", u.slot(0, STATE) * 10 + u.slot(1, STATE), 33);
        due("the greater version of both", u.start(false), 1);
        u.damage(1, 0, 1);
        u.damage(0, 0, 1);
        due("both unsound", u.start(false), 2);
        due("both bad", u.slot(0, STATE) * 10 + u.slot(1, STATE), 44);
        due("starts", u.count(STARTS), 5);
    }

    private static void startTriesAndPower() {
        for (int slot = 0; slot < 2; slot++) {
            TrialBoots x = new TrialBoots();
            x.set(TRIES, 2);
            onTrial(x, slot, 1, 0, 0);
            due("first try", x.start(false), slot);
            due("one less", x.slot(slot, LEFT), 1);
            due("second try", x.start(true), slot);
            due("none left", x.slot(slot, LEFT), 0);
            due("still on trial", x.slot(slot, STATE), TRIAL);
            due("no third", x.start(false), 2);
            due("bad", x.slot(slot, STATE), BAD);
        }

        TrialBoots y = new TrialBoots();
        y.set(TRIES, 1);
        onTrial(y, 0, 1, 0, 1);
        y.start(false);
        y.pass(1);
        due("confirmed in its last try", y.slot(0, STATE), CONFIRMED);
        due("starts again", y.start(false), 0);
        due("a confirmed slot uses no tries", y.slot(0, LEFT), 0);

        TrialBoots z = new TrialBoots();
        z.begin(0, 6, 5, 7);
        z.fill(0, 8);
        z.begin(1, 6, 5, 7);
        z.start(false);
        due("by hand the filling stays", z.slot(0, STATE), FILLING);
        due("and can go on", z.fill(0, 9), 2);
        z.start(true);
        int[] due = {EMPTY, 6, 5, 7, 0, 2, sumOf(8, 9, 255, 255, 255), 1, 0};
        for (int what = 0; what < due.length; what++) {
            due("by power: slot " + what, z.slot(0, what), due[what]);
        }
        due("both", z.slot(1, STATE), EMPTY);
        due("no more filling", z.fill(0, 1), NOT_POSSIBLE);
        due("no finish", z.finish(1), NOT_POSSIBLE);
        due("cause", z.past(0, 1), 2);
        due("cause", z.past(1, 1), 0);
    }

    private static void passHangs() {
        testing("10 pass");
        TrialBoots x = new TrialBoots();
        String before = viewAndPad(x);
        for (int ticks : new int[] {0, 501, -1, MIN, MAX}) {
            due("ticks", x.pass(ticks), BAD_VALUE);
        }
        same("errors change nothing", viewAndPad(x), before);
        due("golden never hangs", x.pass(500), 0);
        due("ticks", x.count(TICKS), 500);
        due("is recorded", x.count(UNDOABLE), 1);
        x.pass(1);
        x.set(PATIENCE, 3);
        onTrial(x, 0, 0, 4, 0);
        x.start(false);
        x.pass(3);
        due("not hanging yet", x.count(HUNG), 0);
        x.pass(1);
        due("hangs", x.count(HUNG), 1);
        x.damage(0, 0, 7);
        x.pass(1);
        due("hangs on, whatever its word says", x.count(HUNG), 2);
        due("not started", x.count(WATCHDOG), 0);
        due("the watchdog bites", x.pass(1), 1);
        due("by the watchdog", x.count(WATCHDOG), 1);
        due("starts", x.count(STARTS), 2);
        due("ticks of the area", x.count(TICKS), 0);
        due("hung no more", x.count(HUNG), 0);
        due("damaged, so golden", x.count(RUNS), 2);
        due("all ticks", x.count(ALL_TICKS), 507);
        due("when", x.past(0, 2), 507);

        TrialBoots y = new TrialBoots();
        y.set(PATIENCE, 1);
        y.set(TRIES, 9);
        onTrial(y, 0, 0, 1, 1);
        y.start(false);
        due("a start in every tick", y.pass(8), 8);
        due("no tries left", y.slot(0, LEFT), 0);
        due("the last one", y.pass(500), 1);
        due("bad", y.slot(0, STATE), BAD);
        due("golden", y.count(RUNS), 2);
        due("ticks behind it", y.count(TICKS), 499);

        TrialBoots z = new TrialBoots();
        z.set(PATIENCE, 99);
        onTrial(z, 0, 0, 2, 0);
        z.start(false);
        z.pass(50);
        due("49 ticks", z.count(HUNG), 49);
        z.set(PATIENCE, 10);
        due("less patience counts in the next tick", z.pass(1), 1);
    }

    private static void passConfirms() {
        TrialBoots x = new TrialBoots();
        onTrial(x, 0, 12, 9, 8);
        x.start(false);
        x.pass(7);
        due("not yet", x.slot(0, STATE), TRIAL);
        x.pass(1);
        due("confirmed", x.slot(0, STATE), CONFIRMED);
        due("least version", x.count(LEAST), 12);
        due("tries stay", x.slot(0, LEFT), 2);
        due("a confirmed image hangs, too", x.pass(10), 1);
        due("and is started again", x.count(RUNS), 0);
        due("as often as it likes", x.pass(500), 27);

        TrialBoots y = new TrialBoots();
        onTrial(y, 0, 12, 8, 8);
        y.start(false);
        y.pass(8);
        due("it hangs in this tick", y.slot(0, STATE), TRIAL);
        due("least version", y.count(LEAST), 0);

        TrialBoots z = new TrialBoots();
        onTrial(z, 0, 12, 7, 8);
        z.start(false);
        z.pass(8);
        due("it hung ahead of it", z.slot(0, STATE), TRIAL);

        TrialBoots w = new TrialBoots();
        onTrial(w, 0, 12, 0, 5);
        w.start(false);
        w.pass(2);
        w.damage(0, 1, 6);
        w.pass(1);
        due("a word damaged while it runs matters", w.slot(0, STATE), CONFIRMED);
        w.damage(0, 0, 4);
        w.pass(1);
        due("at once", w.count(HUNG), 1);

        TrialBoots v = new TrialBoots();
        v.begin(1, 3, 2, sumOf(0, 1));
        confirmed(v, 0, 5);
        v.fill(1, 0);
        v.fill(1, 1);
        v.finish(1);
        due("a lower version that was begun ahead", v.start(false), 1);
        v.pass(1);
        due("confirms itself", v.slot(1, STATE), CONFIRMED);
        due("the least version does not fall", v.count(LEAST), 5);

        TrialBoots u = new TrialBoots();
        onTrial(u, 0, 1, 255, 254);
        u.start(false);
        u.set(PATIENCE, 99);
        u.pass(253);
        due("254: not yet", u.slot(0, STATE), TRIAL);
        u.pass(1);
        due("254: confirmed", u.slot(0, STATE), CONFIRMED);
        u.pass(1);
        due("255: hangs", u.count(HUNG), 1);
    }

    private static void passTrialEnds() {
        TrialBoots x = new TrialBoots();
        x.set(PATIENCE, 2);
        onTrial(x, 0, 1, 0, 20);
        x.start(false);
        due("19 ticks", x.pass(19), 0);
        x.pass(1);
        due("confirmed in the last tick", x.slot(0, STATE), CONFIRMED);
        due("no start", x.count(WATCHDOG), 0);

        TrialBoots y = new TrialBoots();
        y.set(PATIENCE, 2);
        onTrial(y, 0, 1, 0, 21);
        y.start(false);
        due("19 ticks", y.pass(19), 0);
        due("too long on trial", y.pass(1), 1);
        due("two more tries, then golden", y.pass(500), 2);
        due("golden", y.count(RUNS), 2);

        TrialBoots z = new TrialBoots();
        z.set(PATIENCE, 2);
        onTrial(z, 0, 1, 19, 0);
        z.start(false);
        due("both causes in one tick: one start", z.pass(20), 1);
        due("one try", z.slot(0, LEFT), 1);

        TrialBoots w = new TrialBoots();
        onTrial(w, 0, 1, 0, 0);
        w.start(false);
        w.pass(50);
        w.set(PATIENCE, 5);
        due("less patience counts in the next tick", w.pass(1), 1);

        TrialBoots v = new TrialBoots();
        v.begin(1, 1, 2, 0);
        onTrial(v, 0, 1, 1, 0);
        v.start(false);
        v.pass(10);
        due("a start by the watchdog", v.past(0, 1), 1);
        due("lets the filling be", v.slot(1, STATE), FILLING);
    }

    private static void slot() {
        testing("11 slot");
        TrialBoots x = new TrialBoots();
        x.set(ENDURANCE, 2);
        beginAndFill(x, 1, 8, 77, 1, 2, 3);
        x.begin(1, 98, 6, 76);
        x.fill(1, 200);
        int[] due = {FILLING, 98, 6, 76, 0, 1, sumOf(200, 255, 255, 255, 255, 255), 2, 1};
        String before = viewAndPad(x);
        for (int what = 0; what < due.length; what++) {
            due("what " + what, x.slot(1, what), due[what]);
        }
        due("no sum", x.slot(0, SUM), NONE);
        for (int slot : new int[] {-1, 2, MIN, MAX}) {
            due("no such slot", x.slot(slot, 99), NO_SUCH);
        }
        for (int what : new int[] {-1, 9, MIN, MAX}) {
            due("what", x.slot(0, what), BAD_VALUE);
        }
        same("nothing changes", viewAndPad(x), before);
        x.set(ENDURANCE, 1);
        due("worn out", x.slot(1, WORN), 2);
        due("worn out", x.slot(0, WORN), 0);
        x.begin(0, 0, 32, 0);
        due("all pages", x.slot(0, WORN), 8);
        due("greatest wear", x.slot(0, WEAR), 1);
        TrialBoots y = new TrialBoots();
        onTrial(y, 0, 1, 2, 3);
        int[] trial = {TRIAL, 1, 2, sumOf(2, 3), 3, 2, sumOf(2, 3), 1, 0};
        int[] seen = new int[9];
        for (int what = 0; what < 9; what++) {
            seen[what] = y.slot(0, what);
        }
        same("on trial", Arrays.toString(seen), Arrays.toString(trial));
        due("VERSION", y.slot(0, VERSION), 1);
        due("LENGTH", y.slot(0, LENGTH), 2);
    }

    private static void word() {
        testing("12 word");
        TrialBoots x = new TrialBoots();
        x.damage(0, 31, 1);
        x.damage(1, 0, 2);
        due("slot 0", x.word(0, 31), 254);
        due("slot 1", x.word(1, 0), 253);
        for (int word = 0; word < 32; word++) {
            due("golden " + word, x.word(2, word), word < 2 ? 0 : 255);
        }
        for (int area : new int[] {-1, 3, MIN, MAX}) {
            due("no such area", x.word(area, 0), NO_SUCH);
        }
        for (int area = 0; area < 3; area++) {
            for (int word : new int[] {-1, 32, MIN, MAX}) {
                due("no such word", x.word(area, word), NO_SUCH);
            }
        }
        due("no change", x.count(UNDOABLE), 2);
    }

    private static void wear() {
        testing("13 wear");
        TrialBoots x = new TrialBoots();
        x.begin(0, 0, 32, 0);
        x.begin(0, 0, 29, 0);
        x.begin(0, 0, 28, 0);
        x.begin(0, 0, 9, 0);
        x.begin(0, 0, 8, 0);
        int[] due = {5, 5, 4, 3, 3, 3, 3, 2};
        for (int page = 0; page < 8; page++) {
            due("page " + page, x.wear(0, page), due[page]);
            due("the other slot", x.wear(1, page), 0);
        }
        for (int slot : new int[] {-1, 2, MIN, MAX}) {
            due("no such slot", x.wear(slot, 0), NO_SUCH);
        }
        for (int page : new int[] {-1, 8, MIN, MAX}) {
            due("no such page", x.wear(0, page), NO_SUCH);
        }
        due("no change", x.count(UNDOABLE), 5);
    }

    private static void past() {
        testing("14 past");
        TrialBoots x = new TrialBoots();
        due("no start", x.past(0, 0), NO_SUCH);
        due("no start, and no such thing", x.past(0, 3), NO_SUCH);
        x.pass(5);
        x.start(false);
        x.pass(3);
        x.repair(1);
        x.start(true);
        due("area", x.past(0, 0), 1);
        due("cause", x.past(0, 1), 2);
        due("ticks", x.past(0, 2), 8);
        due("area ahead", x.past(1, 0), 2);
        due("cause ahead", x.past(1, 1), 0);
        due("ticks ahead", x.past(1, 2), 5);
        due("no third", x.past(2, 0), NO_SUCH);
        for (int back : new int[] {-1, MIN, MAX}) {
            due("no such start", x.past(back, 0), NO_SUCH);
        }
        for (int what : new int[] {-1, 3, MIN, MAX}) {
            due("what", x.past(0, what), BAD_VALUE);
        }
        for (int i = 0; i < 10; i++) {
            due("not yet", x.past(2 + i, 0), NO_SUCH);
            x.pass(1);
            x.start(false);
        }
        due("the twelfth", x.past(11, 2), 5);
        due("a thirteenth", x.past(12, 2), NO_SUCH);
        x.pass(1);
        x.start(false);
        due("the first one is forgotten", x.past(11, 2), 8);
        due("and is no such start", x.past(12, 2), NO_SUCH);
        due("the latest", x.past(0, 2), 19);
        for (int i = 0; i < 30; i++) {
            x.pass(1);
            x.start(false);
        }
        for (int back = 0; back < 12; back++) {
            due("back " + back, x.past(back, 2), 49 - back);
        }
        x.undo();
        due("undone", x.past(0, 2), 48);
        due("the one that had been forgotten", x.past(11, 2), 37);
    }

    private static void count() {
        testing("15 count");
        TrialBoots x = new TrialBoots();
        x.set(TRIES, 4);
        x.set(PATIENCE, 5);
        x.set(ENDURANCE, 6);
        x.pass(7);
        onTrial(x, 1, 33, 3, 2);
        x.start(false);
        x.pass(4);
        putText(x, "abc");
        int[] due = {1, 4, 2, 33, 1, 0, 11, 9, 4, 5, 6, 3, 6};
        for (int what = 0; what < due.length; what++) {
            due("what " + what, x.count(what), due[what]);
        }
        x.pass(3);
        int[] then = {1, 0, 0, 33, 2, 1, 14, 9, 4, 5, 6, 3, 6};
        for (int what = 0; what < then.length; what++) {
            due("then " + what, x.count(what), then[what]);
        }
        for (int what : new int[] {-1, 13, MIN, MAX}) {
            due("what", x.count(what), BAD_VALUE);
        }
        due("a wrong call counts not", x.count(UNDOABLE), 6);
    }

    private static void padSum() {
        testing("16 padSum");
        TrialBoots x = new TrialBoots();
        due("empty", x.padSum(), BAD_TEXT);
        putText(x, "0");
        due("half a word", x.padSum(), BAD_TEXT);
        putText(x, "0");
        due("00", x.padSum(), 3);
        putText(x, "ff");
        due("00ff", x.padSum(), sumOf(0, 255));
        putText(x, "7");
        due("00ff7", x.padSum(), BAD_TEXT);
        putText(x, "g");
        due("00ff7g", x.padSum(), BAD_TEXT);
        x.wipe();
        putText(x, "f09ae1");
        due("f09ae1", x.padSum(), sumOf(0xf0, 0x9a, 0xe1));
        due("it stays", x.count(PAD), 6);
    }

    private static void ifStarted() {
        testing("17 ifStarted");
        TrialBoots x = new TrialBoots();
        due("new", x.ifStarted(false), 2);
        x.set(TRIES, 1);
        onTrial(x, 0, 1, 1, 1);
        String before = viewAndPad(x);
        due("on trial", x.ifStarted(false), 0);
        same("nothing changes", viewAndPad(x), before);
        x.start(false);
        due("no tries left", x.ifStarted(false), 12);
        onTrial(x, 1, 1, 1, 1);
        due("no tries left, but the other", x.ifStarted(true), 11);
        x.damage(1, 0, 1);
        due("none is left", x.ifStarted(true), 22);
        due("by hand, too", x.ifStarted(false), 22);
        due("nothing came of it", x.count(RUNS), 0);
        x.start(false);
        due("both are bad by now", x.ifStarted(true), 2);
        TrialBoots y = new TrialBoots();
        y.repair(1);
        onTrial(y, 0, 1, 0, 5);
        y.damage(0, 0, 9);
        due("a damaged one, then the confirmed one", y.ifStarted(false), 11);
        y.begin(0, 1, 2, 0);
        due("one that is being filled does not become bad", y.ifStarted(true), 1);
        due("and is still being filled", y.slot(0, STATE), FILLING);
        due("no start was counted", y.count(STARTS), 0);
    }

    private static void ifPassed() {
        testing("18 ifPassed");
        TrialBoots x = new TrialBoots();
        x.set(PATIENCE, 2);
        onTrial(x, 0, 1, 3, 0);
        x.repair(1);
        x.start(false);
        int[] ticks = {1, 3, 4, 5, 8, 11, 12, 13, 500};
        int[] starts = {0, 0, 1, 1, 2, 2, 3, 3, 3};
        String before = viewAndPad(x);
        for (int i = 0; i < ticks.length; i++) {
            due("starts in " + ticks[i], x.ifPassed(ticks[i], 0), starts[i]);
            due("area behind " + ticks[i], x.ifPassed(ticks[i], 1), ticks[i] < 12 ? 0 : 1);
            due("slot 0 behind " + ticks[i], x.ifPassed(ticks[i], 2), ticks[i] < 12 ? TRIAL : BAD);
            due("slot 1 behind " + ticks[i], x.ifPassed(ticks[i], 3), CONFIRMED);
        }
        for (int wrongTicks : new int[] {0, 501, -1, MIN, MAX}) {
            due("ticks", x.ifPassed(wrongTicks, 0), BAD_VALUE);
        }
        for (int what : new int[] {-1, 4, MIN, MAX}) {
            due("what", x.ifPassed(1, what), BAD_VALUE);
        }
        same("nothing changes", viewAndPad(x), before);
        TrialBoots y = new TrialBoots();
        onTrial(y, 1, 1, 0, 3);
        y.start(false);
        due("not yet", y.ifPassed(2, 3), TRIAL);
        due("confirmed", y.ifPassed(3, 3), CONFIRMED);
        due("empty", y.ifPassed(3, 2), EMPTY);
    }

    private static void nextStart() {
        testing("19 nextStart");
        TrialBoots x = new TrialBoots();
        due("golden", x.nextStart(), NONE);
        x.set(PATIENCE, 99);
        onTrial(x, 0, 1, 0, 0);
        x.start(false);
        String before = viewAndPad(x);
        due("trial", x.nextStart(), 990);
        same("nothing changes", viewAndPad(x), before);
        x.pass(489);
        x.pass(500);
        due("in the next tick", x.nextStart(), 1);
        due("which it is", x.pass(1), 1);
        x.damage(0, 0, 255);
        due("hangs at 255", x.nextStart(), 353);
        x.damage(0, 1, 255);
        due("hangs in the tick in which it would confirm itself", x.nextStart(), 353);
        x.damage(0, 0, 255);
        due("confirms itself at 255", x.nextStart(), NONE);
        x.damage(0, 0, 1);
        due("hangs at 1", x.nextStart(), 99);
        x.set(PATIENCE, 1);
        due("one tick", x.nextStart(), 1);
        x.set(PATIENCE, 10);
        x.pass(5);
        due("hangs already", x.nextStart(), 5);
    }

    private static void lasts() {
        testing("20 lasts");
        TrialBoots x = new TrialBoots();
        due("new", x.lasts(0, 2), 20);
        x.begin(0, 0, 4, 0);
        x.begin(0, 0, 8, 0);
        due("page 0", x.lasts(0, 4), 18);
        due("all", x.lasts(0, 32), 18);
        due("other slot", x.lasts(1, 32), 20);
        x.set(ENDURANCE, 2);
        due("worn out", x.lasts(0, 2), 0);
        x.set(ENDURANCE, 1);
        due("more than worn out", x.lasts(0, 2), 0);
        due("fresh", x.lasts(1, 2), 1);
        x.set(ENDURANCE, 60);
        due("long", x.lasts(0, 5), 58);
        due("changes nothing", x.count(UNDOABLE), 5);
        for (int slot : new int[] {-1, 2, MIN, MAX}) {
            due("no such slot", x.lasts(slot, 0), NO_SUCH);
        }
        for (int length : new int[] {1, 33, 0, -1, MIN, MAX}) {
            due("length", x.lasts(0, length), BAD_VALUE);
        }
        int left = x.lasts(0, 5);
        for (int i = 0; i < left; i++) {
            x.begin(0, 0, 5, 0);
        }
        due("it lasted so long", x.begin(0, 0, 5, 0), NOT_POSSIBLE);
        due("no more", x.lasts(0, 5), 0);
    }

    private static void put() {
        testing("21 put");
        TrialBoots x = new TrialBoots();
        due("one", x.put(packed("a")), 1);
        due("two", x.put(packed("bc")), 3);
        due("eight", x.put(packed("01234567")), 11);
        due("the order", x.padSum(), BAD_TEXT);
        putText(x, "d");
        due("the order", x.padSum(), sumOf(0xab, 0xc0, 0x12, 0x34, 0x56, 0x7d));
        long[] wrongs = {0, 32, 127, 255, 256, packed("a") << 8, 0x6100610061L, 0x0100000061L, 1L << 63 | 'a', -1, Long.MIN_VALUE,
            Long.MAX_VALUE, packed("a b"), 0x6120616161616161L, packed("aaaaaaa") << 8, 0x6100616161616161L, 0x2061616161616161L};
        String before = viewAndPad(x);
        for (long characters : wrongs) {
            due("wrong " + Long.toHexString(characters), x.put(characters), BAD_VALUE);
        }
        same("errors change nothing", viewAndPad(x), before);
        due("the least and the greatest code", x.put(33L << 8 | 126), 14);
        due("its fault", x.fault(), 12);
        due("no change", x.count(UNDOABLE), 0);
        x.wipe();
        putText(x, "0".repeat(60));
        due("61", x.put(packed("1")), 61);
        due("too many", x.put(packed("0000")), TOO_MANY);
        due("a bad value goes first", x.put(packed("00 0")), BAD_VALUE);
        due("none is put", x.count(PAD), 61);
        due("64", x.put(packed("fff")), 64);
        due("65", x.put(packed("0")), TOO_MANY);
        due("no fault", x.fault(), NONE);
        int[] words = new int[32];
        words[30] = 0x1f;
        words[31] = 0xff;
        due("the sum", x.padSum(), sumOf(words));
    }

    private static void wipe() {
        testing("22 wipe");
        TrialBoots x = new TrialBoots();
        due("empty", x.wipe(), 0);
        putText(x, "00112233445566");
        due("14", x.wipe(), 14);
        due("pad", x.count(PAD), 0);
        due("again", x.wipe(), 0);
        due("fault", x.fault(), 0);
        due("no change", x.count(UNDOABLE), 0);
        putText(x, "1f");
        due("only what is new", x.padSum(), sumOf(0x1f));
    }

    private static void fault() {
        testing("23 fault");
        String[] texts = {"", "0", "00", "000", "g", "0g", "00g", "00A", "0/", "0:", "0`", "0f", "af09", "a`", "0@", "zz", "00 ".trim() + "~"};
        int[] faults = {0, 1, NONE, 3, 0, 1, 2, 2, 1, 1, 1, NONE, NONE, 1, 1, 0, 2};
        for (int i = 0; i < texts.length; i++) {
            TrialBoots x = new TrialBoots();
            putText(x, texts[i]);
            due("'" + texts[i] + "'", x.fault(), faults[i]);
            due("it stays", x.count(PAD), texts[i].length());
        }
        for (int code = 33; code <= 126; code++) {
            TrialBoots x = new TrialBoots();
            x.put(code);
            boolean isDigit = "0123456789abcdef".indexOf(code) >= 0;
            due("code " + code, x.fault(), isDigit ? 1 : 0);
        }
    }

    private static void undo() {
        testing("24 undo");
        TrialBoots x = new TrialBoots();
        due("nothing", x.undo(), NOT_POSSIBLE);
        due("six states", behindChanges(9).count(UNDOABLE), 6);
        for (int undone = 1; undone <= 7; undone++) {
            TrialBoots y = behindChanges(9);
            for (int i = 1; i <= undone; i++) {
                due("left", y.undo(), i <= 6 ? 6 - i : NOT_POSSIBLE);
            }
            same("undone " + undone, view(y), view(behindChanges(9 - Math.min(undone, 6))));
        }
        x.set(TRIES, 1);
        x.set(TRIES, 2);
        due("one", x.undo(), 1);
        x.set(TRIES, 5);
        due("another way on", x.undo(), 1);
        due("TRIES", x.count(8), 1);
        due("all", x.undo(), 0);
        due("TRIES", x.count(8), 3);
        x.set(TRIES, 3);
        due("a change that changes nothing", x.count(UNDOABLE), 1);
        x.start(false);
        putText(x, "abcd");
        x.save(1);
        due("undo", x.undo(), 1);
        due("the pad stays", x.count(PAD), 4);
        int starts = x.count(STARTS);
        x.restore(1);
        due("what was saved stays", x.count(STARTS), starts + 1);
    }

    private static TrialBoots behindChanges(int changes) {
        TrialBoots x = new TrialBoots();
        for (int i = 0; i < changes; i++) {
            change(x, i);
        }
        return x;
    }

    /** Nine changes of many kinds, each of which changes what is seen. */
    private static void change(TrialBoots x, int kind) {
        switch (kind) {
            case 0: x.set(PATIENCE, 4); break;
            case 1: x.begin(0, 3, 2, sumOf(0, 2)); break;
            case 2: x.fill(0, 0); break;
            case 3: putText(x, "02"); x.fillAll(0); break;
            case 4: x.finish(0); break;
            case 5: x.damage(1, 9, 9); break;
            case 6: x.repair(1); break;
            case 7: x.start(true); break;
            default: x.pass(2); break;
        }
    }

    private static void save() {
        testing("25 save");
        TrialBoots x = new TrialBoots();
        for (int place : new int[] {-1, 2, MIN, MAX}) {
            due("no such place", x.save(place), BAD_VALUE);
        }
        due("golden", x.save(1), 2);
        due("no change", x.count(UNDOABLE), 0);
        due("the other place", x.restore(0), NOT_POSSIBLE);
        x.repair(0);
        x.start(false);
        due("the slot 0", x.save(0), 0);
        x.pass(9);
        String late = view(x);
        due("overwritten", x.save(0), 0);
        x.pass(9);
        x.restore(0);
        same("the later one", view(x), late);
    }

    private static void restore() {
        testing("26 restore");
        TrialBoots x = new TrialBoots();
        for (int place : new int[] {-1, 2, MIN, MAX}) {
            due("no such place", x.restore(place), BAD_VALUE);
        }
        due("nothing saved", x.restore(1), NOT_POSSIBLE);
        due("no change", x.count(UNDOABLE), 0);
        for (int steps = 1; steps <= RESTORE_STEPS; steps++) {
            TrialBoots y = new TrialBoots();
            for (int i = 1; i < steps; i++) {
                restoreStep(y, i);
            }
            int answer = restoreStep(y, steps);
            // The places 0 and 1 hold what was behind 5 and 8 changes.
            int[] changes = {9, 5, 8, 5, 8, 5, 9};
            // The history is full by the step 4; the later ones undo two, one and one change.
            int[] answers = {0, 2, 0, 2, 4, 3, 2};
            due("answer of step " + steps, answer, answers[steps - 1]);
            same("step " + steps, view(y), view(behindChanges(changes[steps - 1])));
        }
        restoreKeepsPadAndHistory();
    }

    private static final int RESTORE_STEPS = 7;

    private static int restoreStep(TrialBoots x, int step) {
        switch (step) {
            case 1: return nineChangesSaved(x);
            case 2: return x.restore(0);
            case 3: return x.restore(1);
            case 4: x.start(false); return x.restore(0);
            case 5: x.undo(); return x.undo();
            default: return x.undo();
        }
    }

    private static int nineChangesSaved(TrialBoots x) {
        for (int i = 0; i < 9; i++) {
            change(x, i);
            if (i == 4) {
                x.save(0);
            }
            if (i == 7) {
                x.save(1);
            }
        }
        return x.count(RUNS);
    }

    private static void restoreKeepsPadAndHistory() {
        TrialBoots x = new TrialBoots();
        nineChangesSaved(x);
        putText(x, "7777");
        due("golden runs in the first", x.restore(0), 2);
        due("the slot 0 runs in the second", x.restore(1), 0);
        due("the pad stays", x.count(PAD), 4);
        due("the history stays", x.count(UNDOABLE), 6);
        x.start(false);
        x.pass(5);
        x.restore(0);
        same("what comes behind does not reach it", view(x), view(behindChanges(5)));
    }
}
