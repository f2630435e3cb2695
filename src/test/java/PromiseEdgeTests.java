/** The sentences of the promises 1 to 26 in ../shared/DOC.md that name a boundary case: each is quoted, and has a test of its own. */
public final class PromiseEdgeTests extends Checks {
    public static void main(String[] args) {
        edgesOfSlotCalls();
        edgesOfStartsAndTicks();
        edgesOfQuestions();
        edgesOfWhatIfs();
        edgesOfTexts();
        edgesOfUndoAndSaving();
        end("the edges of the promises hold");
    }

    private static void edge(int promise, String sentence, Runnable test) {
        testing("promise " + promise + " \"" + sentence + "\"");
        test.run();
    }

    // ---- slots

    private static void edgesOfSlotCalls() {
        edge(1, "Creates a device whose golden copy runs.", PromiseEdgeTests::newDevice);
        edge(2, "Returns the previous value; BAD_VALUE if there is no such setting, or the value is out of its range.",
            PromiseEdgeTests::setRanges);
        edge(3, "Empties the pages of a slot that the image will take, and begins to fill it: it is being filled, with no words filled "
            + "in, and no tries.", PromiseEdgeTests::beginAnew);
        edge(3, "`version`: 0 to 99", PromiseEdgeTests::beginVersions);
        edge(3, "`length`: 2 to 32", PromiseEdgeTests::beginLengths);
        edge(3, "`sum`: 0 to 250, told", PromiseEdgeTests::beginSums);
        edge(3, "Returns the greatest wear of these pages then; NO_SUCH if there is no such slot", PromiseEdgeTests::beginReturns);
        edge(3, "NOT_POSSIBLE if the slot runs", PromiseEdgeTests::beginOfTheOneThatRuns);
        edge(3, "the version is below the least one", PromiseEdgeTests::beginBelowTheLeast);
        edge(3, "one of these pages is worn out", PromiseEdgeTests::beginOfWornOutPages);
        edge(4, "`word`: 0 to 255", PromiseEdgeTests::fillWords);
        edge(4, "NOT_POSSIBLE if it is not being filled, or has all of its words", PromiseEdgeTests::fillNotPossible);
        edge(5, "Fills the words of the pad in, all or none, and empties the pad.", PromiseEdgeTests::fillAllOrNone);
        edge(5, "BAD_TEXT if the pad has a fault", PromiseEdgeTests::fillAllWithFault);
        edge(5, "NOT_POSSIBLE if it is not being filled", PromiseEdgeTests::fillAllNotPossible);
        edge(5, "TOO_MANY if there are more words than it lacks", PromiseEdgeTests::fillAllTooMany);
        edge(6, "it is on trial, with TRIES tries, if the sum of its image is the told one, otherwise bad",
            PromiseEdgeTests::finishSums);
        edge(6, "NOT_POSSIBLE if it is not being filled, or lacks words", PromiseEdgeTests::finishNotPossible);
        edge(7, "some of its bits become the other ones", PromiseEdgeTests::damageBits);
        edge(7, "NO_SUCH if there is no such slot or word; BAD_VALUE if bits is out of range", PromiseEdgeTests::damageRefused);
        edge(8, "it is confirmed, with the version 0, the length 2, the golden copy's sum as told, no tries, and 2 words filled in",
            PromiseEdgeTests::repairAnew);
        edge(8, "NOT_POSSIBLE if the golden copy does not run", PromiseEdgeTests::repairWhileASlotRuns);
        edge(8, "the page 0 is worn out", PromiseEdgeTests::repairOfAWornOutPage);
        edge(8, "or the least version is above 0", PromiseEdgeTests::repairAboveTheLeast);
    }

    private static void newDevice() {
        same("two new ones", everything(TrialBoots::new), everything(TrialBoots::new));
        TrialBoots x = new TrialBoots();
        due("the golden copy runs", x.count(RUNS), GOLDEN);
        due("no ticks", x.count(TICKS), 0);
        due("no changes", x.count(UNDOABLE), 0);
        TrialBoots other = busy();
        due("the other one", other.count(STARTS), 1);
        due("nothing of it reaches this one", x.count(STARTS), 0);
        due("nothing of it reaches this one", x.word(0, 0), 255);
        due("nothing of it reaches this one", x.restore(1), NOT_POSSIBLE);
    }

    private static void setRanges() {
        refusedFor("setting", Checks::busy, (x, setting) -> x.set(setting, 1), BAD_VALUE, -1, 3, MIN, MAX);
        int[] most = {9, 99, 60};
        for (int setting = 0; setting < 3; setting++) {
            TrialBoots x = new TrialBoots();
            for (int value = 1; value <= most[setting]; value++) {
                x.set(setting, value);
                due("setting " + setting, x.count(SETTINGS + setting), value);
            }
            due("the previous one", x.set(setting, 1), most[setting]);
            for (int another = 0; another < 3; another++) {
                if (another != setting) {
                    due("another setting", x.count(SETTINGS + another), new TrialBoots().count(SETTINGS + another));
                }
            }
            int its = setting;
            refusedFor("value", Checks::busy, (y, value) -> y.set(its, value), BAD_VALUE, 0, most[setting] + 1, -1, MIN, MAX);
            changed("to the same value", Checks::busy, y -> y.set(PATIENCE, 10), 10, 6);
        }
    }

    private static void beginAnew() {
        for (int state = EMPTY; state <= BAD; state++) {
            TrialBoots x = goldenWith(1, state);
            int wear = x.wear(1, 0);
            due("a slot of state " + state, x.begin(1, 7, 5, 250), wear + 1);
            int[] dues = {FILLING, 7, 5, 250, 0, 0, sumOf(255, 255, 255, 255, 255), wear + 1, 0};
            for (int what = 0; what < dues.length; what++) {
                due("what " + what, x.slot(1, what), dues[what]);
            }
            due("the next page", x.wear(1, 1), 1);
            due("the page behind", x.wear(1, 2), 0);
            due("the other slot", x.slot(0, STATE), EMPTY);
            due("the other slot's wear", x.slot(0, WEAR), 0);
            due("no start", x.count(STARTS), 0);
        }
    }

    private static void beginVersions() {
        for (int version : new int[] {0, 1, 98, 99}) {
            TrialBoots x = new TrialBoots();
            due("version " + version, x.begin(0, version, 2, 0), 1);
            due("version " + version, x.slot(0, VERSION), version);
        }
        refusedFor("version", Checks::busy, (x, version) -> x.begin(0, version, 2, 0), BAD_VALUE, -1, 100, MIN, MAX);
    }

    private static void beginLengths() {
        for (int length : new int[] {2, 3, 31, 32}) {
            TrialBoots x = new TrialBoots();
            due("length " + length, x.begin(0, 0, length, 0), 1);
            due("length " + length, x.slot(0, LENGTH), length);
        }
        refusedFor("length", Checks::busy, (x, length) -> x.begin(0, 9, length, 0), BAD_VALUE, 1, 33, 0, -1, MIN, MAX);
    }

    private static void beginSums() {
        for (int sum : new int[] {0, 1, 249, 250}) {
            TrialBoots x = new TrialBoots();
            due("sum " + sum, x.begin(0, 0, 2, sum), 1);
            due("sum " + sum, x.slot(0, TOLD), sum);
        }
        refusedFor("sum", Checks::busy, (x, sum) -> x.begin(0, 9, 2, sum), BAD_VALUE, -1, 251, MIN, MAX);
    }

    private static void beginReturns() {
        TrialBoots x = new TrialBoots();
        due("one page", x.begin(0, 0, 4, 0), 1);
        due("two pages", x.begin(0, 0, 5, 0), 2);
        due("all pages", x.begin(0, 0, 32, 0), 3);
        due("one page", x.begin(0, 0, 2, 0), 4);
        due("the other slot", x.begin(1, 0, 2, 0), 1);
        refusedFor("slot", Checks::busy, (y, slot) -> y.begin(slot, 9, 2, 0), NO_SUCH, -1, 2, 3, MIN, MAX);
    }

    private static void beginOfTheOneThatRuns() {
        refused("a confirmed one", Checks::running, x -> x.begin(0, 9, 2, 0), NOT_POSSIBLE);
        refused("one on trial", () -> trialOf(10, 0, 0), x -> x.begin(0, 9, 2, 0), NOT_POSSIBLE);
        due("the other one", running().begin(1, 9, 2, 0), 2);
        due("both are possible while golden runs: 0", busy().begin(0, 9, 2, 0), 3);
        due("both are possible while golden runs: 1", busy().begin(1, 9, 2, 0), 2);
        TrialBoots x = running();
        x.damage(0, 0, 1);
        x.start(false);
        due("one that runs no more", x.begin(0, 9, 2, 0), 2);
    }

    private static void beginBelowTheLeast() {
        refusedFor("version", Checks::running, (x, version) -> x.begin(1, version, 2, 0), NOT_POSSIBLE, 0, 4);
        due("the least one", running().begin(1, 5, 2, 0), 2);
        due("one more", running().begin(1, 6, 2, 0), 2);
        TrialBoots x = new TrialBoots();
        confirmed(x, 0, 99);
        due("98 behind 99", x.begin(1, 98, 2, 0), NOT_POSSIBLE);
        due("99 behind 99", x.begin(1, 99, 2, 0), 1);
        TrialBoots y = trialOf(10, 0, 0);
        due("one on trial is not the least one", y.begin(1, 0, 2, 0), 1);
    }

    private static void beginOfWornOutPages() {
        TrialBoots x = new TrialBoots();
        x.set(ENDURANCE, 2);
        due("a wear of 0", x.begin(0, 0, 32, 0), 1);
        due("a wear of 1", x.begin(0, 0, 2, 0), 2);
        for (int length : new int[] {2, 4, 5, 32}) {
            due("a wear of 2, length " + length, x.begin(0, 0, length, 0), NOT_POSSIBLE);
        }
        due("the other slot", x.begin(1, 0, 32, 0), 1);
        x.set(ENDURANCE, 1);
        due("a wear of 2, ENDURANCE 1", x.begin(0, 0, 2, 0), NOT_POSSIBLE);
        x.set(ENDURANCE, 3);
        due("a wear of 2, ENDURANCE 3", x.begin(0, 0, 32, 0), 3);
        due("a wear of 3, ENDURANCE 3", x.begin(0, 0, 32, 0), NOT_POSSIBLE);
        refused("begin", Checks::wornOut, y -> y.begin(0, 0, 2, 0), NOT_POSSIBLE);
    }

    private static void fillWords() {
        for (int word : new int[] {0, 1, 254, 255}) {
            TrialBoots x = new TrialBoots();
            x.begin(1, 0, 2, 0);
            due("how many", x.fill(1, word), 1);
            due("word " + word, x.word(1, 0), word);
            due("the next one", x.word(1, 1), 255);
        }
        refusedFor("word", Checks::busy, (x, word) -> x.fill(0, word), BAD_VALUE, -1, 256, MIN, MAX);
        refusedFor("slot", Checks::busy, (x, slot) -> x.fill(slot, 0), NO_SUCH, -1, 2, MIN, MAX);
    }

    private static void fillNotPossible() {
        for (int state : new int[] {EMPTY, TRIAL, CONFIRMED, BAD}) {
            refused("state " + state, () -> goldenWith(0, state), x -> x.fill(0, 1), NOT_POSSIBLE);
        }
        for (int length : new int[] {2, 32}) {
            TrialBoots x = new TrialBoots();
            x.begin(0, 0, length, 0);
            for (int i = 1; i <= length; i++) {
                due("word " + i, x.fill(0, i), i);
            }
            due("one more than " + length, x.fill(0, 0), NOT_POSSIBLE);
            due("the last one", x.word(0, length - 1), length);
        }
        refused("it has all of its words", () -> goldenWith(0, FILLING), x -> x.fill(0, 1), NOT_POSSIBLE);
    }

    private static void fillAllOrNone() {
        TrialBoots x = withPad("0a1b");
        x.begin(0, 0, 4, 0);
        due("the first two", x.fillAll(0), 2);
        due("the pad is empty", x.count(PAD), 0);
        refusedEmptyPad(x);
        putText(x, "2c3d");
        due("all that it lacks", x.fillAll(0), 4);
        int[] words = {0x0a, 0x1b, 0x2c, 0x3d, 255};
        for (int word = 0; word < words.length; word++) {
            due("word " + word, x.word(0, word), words[word]);
        }
        TrialBoots y = withPad("00".repeat(31) + "ff");
        y.begin(1, 0, 32, 0);
        due("32 at once", y.fillAll(1), 32);
        due("the last one", y.word(1, 31), 255);
        due("the one ahead", y.word(1, 30), 0);
        refused("none, if one is too many", behind(Checks::busy, z -> z.put(packed("11"))), z -> z.fillAll(0), TOO_MANY);
    }

    private static void refusedEmptyPad(TrialBoots x) {
        due("nothing more", x.fillAll(0), BAD_TEXT);
        due("nothing was filled in", x.slot(0, FILLED), 2);
    }

    private static void fillAllWithFault() {
        String[] texts = {"", "0", "g", "0g", "000", "00g", "0A", "00~0"};
        for (String text : texts) {
            refused("pad '" + text + "'", () -> {
                TrialBoots x = withPad(text);
                x.begin(0, 0, 8, 0);
                return x;
            }, x -> x.fillAll(0), BAD_TEXT);
        }
        refusedFor("slot", Checks::busy, (x, slot) -> x.fillAll(slot), NO_SUCH, -1, 2, MIN, MAX);
    }

    private static void fillAllNotPossible() {
        for (int state : new int[] {EMPTY, TRIAL, CONFIRMED, BAD}) {
            refused("state " + state, behind(() -> goldenWith(1, state), x -> x.put(packed("00"))), x -> x.fillAll(1), NOT_POSSIBLE);
        }
    }

    private static void fillAllTooMany() {
        for (int length : new int[] {2, 3, 31}) {
            TrialBoots x = withPad("00".repeat(length + 1));
            x.begin(0, 0, length, 0);
            due("one more than " + length, x.fillAll(0), TOO_MANY);
            due("the pad stays", x.count(PAD), 2 * length + 2);
            due("no word is filled in", x.slot(0, FILLED), 0);
            due("no word is filled in", x.word(0, 0), 255);
            x.wipe();
            putText(x, "00".repeat(length));
            due("just " + length, x.fillAll(0), length);
            putText(x, "00");
            due("one more when it lacks none", x.fillAll(0), TOO_MANY);
        }
        refused("two more when it lacks one", () -> {
            TrialBoots x = withPad("0000");
            beginAndFill(x, 0, 0, 0, 1, 2);
            x.undo();
            return x;
        }, x -> x.fillAll(0), TOO_MANY);
    }

    private static void finishSums() {
        for (int told = 0; told <= 250; told++) {
            TrialBoots x = new TrialBoots();
            beginAndFill(x, 0, 0, told, 0, 241);
            boolean isSound = told == 250;
            due("told " + told + " of 250", x.finish(0), isSound ? 1 : 0);
            due("told " + told + ": how it is", x.slot(0, STATE), isSound ? TRIAL : BAD);
            due("told " + told + ": tries", x.slot(0, LEFT), isSound ? 3 : 0);
        }
        for (int tries : new int[] {1, 9}) {
            TrialBoots x = new TrialBoots();
            beginAndFill(x, 0, 0, 9, 0, 0);
            x.set(TRIES, tries);
            due("finish", x.finish(0), 1);
            due("TRIES at the end of the filling", x.slot(0, LEFT), tries);
            x.set(TRIES, 5);
            due("no later TRIES", x.slot(0, LEFT), tries);
        }
        due("no start by it", goldenWith(0, TRIAL).count(STARTS), 0);
    }

    private static void finishNotPossible() {
        for (int state : new int[] {EMPTY, TRIAL, CONFIRMED, BAD}) {
            refused("state " + state, () -> goldenWith(0, state), x -> x.finish(0), NOT_POSSIBLE);
        }
        for (int length : new int[] {2, 32}) {
            TrialBoots x = new TrialBoots();
            x.begin(1, 0, length, sumOf(new int[length]));
            for (int i = 0; i < length; i++) {
                due("it lacks " + (length - i), x.finish(1), NOT_POSSIBLE);
                x.fill(1, 0);
            }
            due("it lacks none", x.finish(1), 1);
        }
        refused("it lacks one", () -> {
            TrialBoots x = new TrialBoots();
            x.begin(0, 0, 2, 9);
            x.fill(0, 0);
            return x;
        }, x -> x.finish(0), NOT_POSSIBLE);
        refusedFor("slot", Checks::busy, (x, slot) -> x.finish(slot), NO_SUCH, -1, 2, MIN, MAX);
    }

    private static void damageBits() {
        for (int bits : new int[] {1, 2, 4, 8, 16, 32, 64, 127, 128, 254, 255}) {
            TrialBoots x = new TrialBoots();
            due("bits " + bits, x.damage(0, 0, bits), 255 - bits);
            due("the word", x.word(0, 0), 255 - bits);
            due("bits " + bits + " again", x.damage(0, 0, bits), 255);
        }
        TrialBoots x = new TrialBoots();
        x.damage(0, 5, 0x3c);
        due("some become 1, others 0", x.damage(0, 5, 0x66), 0xa5);
        due("the word ahead", x.word(0, 4), 255);
        due("the word behind", x.word(0, 6), 255);
        for (int state = EMPTY; state <= BAD; state++) {
            TrialBoots y = goldenWith(0, state);
            int before = y.word(0, 31);
            due("state " + state, y.damage(0, 31, 255), before ^ 255);
            due("it stays so", y.slot(0, STATE), state);
            int inImage = y.word(0, 1);
            due("state " + state + ", a word of its image", y.damage(0, 1, 1), inImage ^ 1);
            due("it stays so until a start", y.slot(0, STATE), state);
            y.damage(0, 1, 1);
            due("damage that is taken back ahead of it", y.start(false), state == TRIAL || state == CONFIRMED ? 0 : GOLDEN);
            due("it stays so", y.slot(0, STATE), state);
        }
        TrialBoots runs = running();
        due("one that runs", runs.damage(0, 0, 1), 1);
        due("it stays confirmed until a start", runs.slot(0, STATE), CONFIRMED);
    }

    private static void damageRefused() {
        refusedFor("slot", Checks::busy, (x, slot) -> x.damage(slot, 0, 1), NO_SUCH, -1, 2, MIN, MAX);
        for (int slot = 0; slot < 2; slot++) {
            int its = slot;
            due("the first word", busy().damage(its, 0, 255), slot == 0 ? 255 - 9 : 255 - 5);
            due("the last word", busy().damage(its, 31, 255), 0);
            refusedFor("word", Checks::busy, (x, word) -> x.damage(its, word, 1), NO_SUCH, -1, 32, MIN, MAX);
            refusedFor("bits", Checks::busy, (x, bits) -> x.damage(its, 0, bits), BAD_VALUE, 0, 256, -1, MIN, MAX);
        }
    }

    private static void repairAnew() {
        for (int state = EMPTY; state <= BAD; state++) {
            for (int slot = 0; slot < 2; slot++) {
                TrialBoots x = goldenWith(slot, state);
                x.damage(slot, 3, 1);
                x.damage(slot, 4, 1);
                int wear = x.wear(slot, 0);
                due("a slot of state " + state, x.repair(slot), wear + 1);
                int[] dues = {CONFIRMED, 0, 2, 9, 0, 2, 9, wear + 1, 0};
                for (int what = 0; what < dues.length; what++) {
                    due("what " + what, x.slot(slot, what), dues[what]);
                }
                int[] words = {0, 0, 255, 255, 254};
                for (int word = 0; word < words.length; word++) {
                    due("word " + word, x.word(slot, word), words[word]);
                }
                due("the page 1", x.wear(slot, 1), 0);
                due("the other slot", x.slot(1 - slot, STATE), EMPTY);
                due("golden runs still", x.count(RUNS), GOLDEN);
                due("no start", x.count(STARTS), 0);
            }
        }
        refusedFor("slot", Checks::busy, (x, slot) -> x.repair(slot), NO_SUCH, -1, 2, MIN, MAX);
    }

    private static void repairWhileASlotRuns() {
        for (int slot = 0; slot < 2; slot++) {
            int its = slot;
            refused("the slot that runs is on trial", () -> trialOf(10, 0, 0), x -> x.repair(its), NOT_POSSIBLE);
            refused("a slot runs, the least version is 0", behind(() -> goldenWith(1, CONFIRMED), x -> x.start(false)),
                x -> x.repair(its), NOT_POSSIBLE);
            due("golden runs, though a slot is on trial", goldenWith(1, TRIAL).repair(its), its + 1);
        }
    }

    private static void repairOfAWornOutPage() {
        TrialBoots x = new TrialBoots();
        x.set(ENDURANCE, 2);
        due("a wear of 0", x.repair(0), 1);
        due("a wear of 1", x.repair(0), 2);
        due("a wear of 2", x.repair(0), NOT_POSSIBLE);
        due("the other slot", x.repair(1), 1);
        x.set(ENDURANCE, 1);
        due("a wear of 2, ENDURANCE 1", x.repair(0), NOT_POSSIBLE);
        x.set(ENDURANCE, 3);
        due("a wear of 2, ENDURANCE 3", x.repair(0), 3);
        refused("repair", Checks::wornOut, y -> y.repair(0), NOT_POSSIBLE);
    }

    private static void repairAboveTheLeast() {
        for (int slot = 0; slot < 2; slot++) {
            int its = slot;
            due("a least version of 0", goldenBehind(0).repair(its), 2 - its);
            refused("a least version of 1", () -> goldenBehind(1), x -> x.repair(its), NOT_POSSIBLE);
            refused("a least version of 99", () -> goldenBehind(99), x -> x.repair(its), NOT_POSSIBLE);
        }
    }

    /** Golden runs, and a confirmed image has had the version. */
    private static TrialBoots goldenBehind(int version) {
        TrialBoots x = new TrialBoots();
        confirmed(x, 0, version);
        x.damage(0, 0, 1);
        due("golden runs", x.start(false), GOLDEN);
        due("the least version", x.count(LEAST), version);
        return x;
    }

    // ---- starts, ticks

    private static void edgesOfStartsAndTicks() {
        edge(9, "Starts by hand, or by the power (then a slot that is being filled becomes empty, ahead of the choice; its words, and "
            + "all else of it, stay).", PromiseEdgeTests::startByPower);
        edge(9, "Returns the area that runs then.", PromiseEdgeTests::startReturns);
        edge(10, "`ticks`: 1 to 500", PromiseEdgeTests::passTicks);
        edge(10, "Returns how many starts there are in them; BAD_VALUE if ticks is out of range.", PromiseEdgeTests::passReturns);
    }

    private static void startByPower() {
        for (int slot = 0; slot < 2; slot++) {
            for (int filled = 0; filled <= 3; filled++) {
                TrialBoots hand = beingFilled(slot, filled);
                TrialBoots power = beingFilled(slot, filled);
                hand.start(false);
                power.start(true);
                due("by hand, " + filled + " words", hand.slot(slot, STATE), FILLING);
                due("by the power, " + filled + " words", power.slot(slot, STATE), EMPTY);
                for (int what = VERSION; what <= WORN; what++) {
                    due("what " + what, power.slot(slot, what), hand.slot(slot, what));
                }
                for (int word = 0; word < 4; word++) {
                    due("word " + word, power.word(slot, word), hand.word(slot, word));
                }
                due("by hand it goes on", filled < 3 ? hand.fill(slot, 1) : hand.finish(slot), filled < 3 ? filled + 1 : 0);
                due("by the power it does not", filled < 3 ? power.fill(slot, 1) : power.finish(slot), NOT_POSSIBLE);
            }
            for (int state : new int[] {EMPTY, TRIAL, CONFIRMED, BAD}) {
                TrialBoots x = goldenWith(slot, state);
                x.start(true);
                due("another state stays", x.slot(slot, STATE), state);
            }
        }
        TrialBoots both = beingFilled(0, 1);
        both.begin(1, 0, 2, 0);
        both.start(true);
        due("both", both.slot(0, STATE) + both.slot(1, STATE), EMPTY);
        TrialBoots watchdog = trialOf(1, 1, 0);
        watchdog.begin(1, 0, 2, 0);
        due("a start by the watchdog", watchdog.pass(1), 1);
        due("lets the filling be", watchdog.slot(1, STATE), FILLING);
    }

    private static TrialBoots beingFilled(int slot, int filled) {
        TrialBoots x = new TrialBoots();
        x.begin(slot, 6, 3, 200);
        for (int i = 0; i < filled; i++) {
            x.fill(slot, 7);
        }
        return x;
    }

    private static void startReturns() {
        for (int how = 0; how < 2; how++) {
            boolean isPower = how == 1;
            due("golden", new TrialBoots().start(isPower), GOLDEN);
            due("the slot 0", goldenWith(0, TRIAL).start(isPower), 0);
            due("the slot 1", goldenWith(1, CONFIRMED).start(isPower), 1);
            changed("a start", TrialBoots::new, x -> x.start(isPower), GOLDEN, 1);
            TrialBoots x = goldenWith(1, CONFIRMED);
            x.start(isPower);
            due("its cause", x.past(0, CAUSE), isPower ? BY_POWER : BY_HAND);
            due("it is counted", x.count(STARTS), 1);
            due("not as one by the watchdog", x.count(WATCHDOG), 0);
        }
    }

    private static void passTicks() {
        for (int ticks : new int[] {1, 2, 499, 500}) {
            TrialBoots x = new TrialBoots();
            due("starts", x.pass(ticks), 0);
            due("ticks", x.count(ALL_TICKS), ticks);
        }
        refusedFor("ticks", Checks::busy, (x, ticks) -> x.pass(ticks), BAD_VALUE, 0, 501, -1, MIN, MAX);
        changed("500 ticks", TrialBoots::new, x -> x.pass(500), 0, 1);
    }

    private static void passReturns() {
        due("none", trialOf(2, 5, 0).pass(5), 0);
        due("one", trialOf(2, 5, 0).pass(6), 1);
        due("one still", trialOf(2, 5, 0).pass(11), 1);
        due("two", trialOf(2, 5, 0).pass(12), 2);
        due("three, and no more", trialOf(2, 5, 0).pass(500), 3);
        TrialBoots all = alwaysHanging();
        due("one in each tick", all.pass(500), 500);
        due("starts by hand do not count", all.count(WATCHDOG), 500);
        due("in all", all.count(STARTS), 502);
    }

    // ---- what there is

    private static void edgesOfQuestions() {
        edge(11, "0 how it is, 1 its version, 2 its length, 3 the told sum, 4 the tries that are left, 5 how many words are filled in",
            PromiseEdgeTests::slotWhats);
        edge(11, "6 the sum of its image now (NONE if its length is 0)", PromiseEdgeTests::slotSum);
        edge(11, "7 the greatest wear of its pages, 8 how many of them are worn out", PromiseEdgeTests::slotWear);
        edge(11, "NO_SUCH if there is no such slot; BAD_VALUE if what is out of range", PromiseEdgeTests::slotRefused);
        edge(12, "Returns the word; NO_SUCH if there is no such area or word.", PromiseEdgeTests::words);
        edge(13, "Returns the wear; NO_SUCH if there is no such slot or page.", PromiseEdgeTests::wears);
        edge(14, "Returns something about a start that was; the latest 12 are remembered.", PromiseEdgeTests::pastTwelve);
        edge(14, "the latest 12 are remembered", PromiseEdgeTests::pastBehindUndoAndRestore);
        edge(14, "2 how many ticks had passed in all by then (with the one in which it came, if it was by the watchdog)",
            PromiseEdgeTests::pastTicks);
        edge(14, "NO_SUCH if there is no such start (any more); BAD_VALUE if what is out of range", PromiseEdgeTests::pastRefused);
        edge(15, "0 the area that runs, 1 its ticks, 2 for how many ticks it has hung, 3 the least version, 4 starts so far, 5 those by "
            + "the watchdog, 6 ticks so far, 7 the sum of the golden copy, 8 to 10 the settings, 11 the length of the pad, 12 how many "
            + "changes can be undone", PromiseEdgeTests::counts);
        edge(15, "Returns the number; BAD_VALUE if what is out of range.", PromiseEdgeTests::countRefused);
        edge(16, "Returns the sum; BAD_TEXT if the pad has a fault.", PromiseEdgeTests::padSums);
    }

    private static void slotWhats() {
        TrialBoots x = new TrialBoots();
        x.set(TRIES, 9);
        beginAndFill(x, 1, 99, 250, 0, 241);
        int[] filling = {FILLING, 99, 2, 250, 0, 2};
        int[] trial = {TRIAL, 99, 2, 250, 9, 2};
        for (int what = 0; what < filling.length; what++) {
            due("being filled, what " + what, x.slot(1, what), filling[what]);
        }
        x.finish(1);
        for (int what = 0; what < trial.length; what++) {
            due("on trial, what " + what, x.slot(1, what), trial[what]);
            due("the other slot, what " + what, x.slot(0, what), 0);
        }
    }

    private static void slotSum() {
        TrialBoots x = new TrialBoots();
        due("a length of 0", x.slot(0, SUM), NONE);
        x.damage(0, 0, 1);
        due("a length of 0, damaged", x.slot(0, SUM), NONE);
        x.begin(0, 0, 2, 0);
        due("the least length, nothing filled in", x.slot(0, SUM), sumOf(255, 255));
        x.fill(0, 247);
        x.fill(0, 3);
        due("a sum of 0", x.slot(0, SUM), 0);
        x.start(true);
        due("an empty one whose length stays", x.slot(0, SUM), 0);
        x.begin(0, 0, 32, 0);
        int[] words = new int[32];
        java.util.Arrays.fill(words, 255);
        due("the greatest length", x.slot(0, SUM), sumOf(words));
        for (int i = 0; i < 5; i++) {
            x.undo();
        }
        due("a length of 0 again", x.slot(0, SUM), NONE);
    }

    private static void slotWear() {
        TrialBoots x = new TrialBoots();
        due("no wear", x.slot(0, WEAR), 0);
        due("none is worn out", x.slot(0, WORN), 0);
        x.set(ENDURANCE, 2);
        x.begin(0, 0, 32, 0);
        due("all once", x.slot(0, WEAR), 1);
        due("none is worn out", x.slot(0, WORN), 0);
        x.begin(0, 0, 28, 0);
        due("seven twice", x.slot(0, WEAR), 2);
        due("seven are worn out", x.slot(0, WORN), 7);
        x.set(ENDURANCE, 1);
        due("all are worn out", x.slot(0, WORN), 8);
        x.begin(1, 0, 2, 0);
        due("one once", x.slot(1, WEAR), 1);
        due("one is worn out", x.slot(1, WORN), 1);
        x.set(ENDURANCE, 60);
        x.begin(1, 0, 2, 0);
        due("the page 0 alone", x.slot(1, WEAR), 2);
        due("none is worn out", x.slot(1, WORN), 0);
    }

    private static void slotRefused() {
        refusedFor("slot", Checks::busy, (x, slot) -> x.slot(slot, 0), NO_SUCH, -1, 2, 3, MIN, MAX);
        refusedFor("what", Checks::busy, (x, what) -> x.slot(1, what), BAD_VALUE, -1, 9, MIN, MAX);
    }

    private static void words() {
        TrialBoots x = busy();
        x.damage(1, 31, 1);
        due("the first word of the first area", x.word(0, 0), 9);
        due("the last word of the slot 1", x.word(1, 31), 254);
        due("the last word of the slot 0", x.word(0, 31), 255);
        due("the first word of the last area", x.word(2, 0), 0);
        due("the last word of the last area", x.word(2, 31), 255);
        refusedFor("area", Checks::busy, (y, area) -> y.word(area, 0), NO_SUCH, -1, 3, MIN, MAX);
        refusedFor("word of golden", Checks::busy, (y, word) -> y.word(2, word), NO_SUCH, -1, 32, MIN, MAX);
    }

    private static void wears() {
        TrialBoots x = new TrialBoots();
        x.begin(1, 0, 32, 0);
        x.begin(1, 0, 28, 0);
        int[] dues = {2, 2, 2, 2, 2, 2, 2, 1};
        for (int page = 0; page < 8; page++) {
            due("page " + page, x.wear(1, page), dues[page]);
        }
        refusedFor("slot", Checks::busy, (y, slot) -> y.wear(slot, 0), NO_SUCH, -1, 2, MIN, MAX);
        refusedFor("page", Checks::busy, (y, page) -> y.wear(1, page), NO_SUCH, -1, 8, MIN, MAX);
    }

    private static void pastTwelve() {
        for (int starts : new int[] {0, 1, 11, 12, 13, 14, 24, 25}) {
            TrialBoots x = behindStarts(starts);
            int kept = Math.min(starts, 12);
            for (int back = 0; back < kept; back++) {
                due(starts + " starts, back " + back, x.past(back, WHEN), starts - back);
                due(starts + " starts, cause of " + back, x.past(back, CAUSE), isByPower(starts - back) ? BY_POWER : BY_HAND);
                due(starts + " starts, area of " + back, x.past(back, AREA), GOLDEN);
            }
            due(starts + " starts, one more back", x.past(kept, WHEN), NO_SUCH);
            due(starts + " starts so far", x.count(STARTS), starts);
        }
    }

    /** Starts that were forgotten, and are remembered again. */
    private static void pastBehindUndoAndRestore() {
        TrialBoots undone = behindStarts(14);
        undone.undo();
        dueStarts(undone, 14, 13, GOLDEN);
        undone.undo();
        undone.undo();
        dueStarts(undone, 13, 12, GOLDEN);
        TrialBoots elsewhere = behindStarts(13);
        elsewhere.undo();
        elsewhere.undo();
        elsewhere.pass(7);
        elsewhere.start(false);
        due("the start on another way", elsewhere.past(0, WHEN), 19);
        due("the start ahead of it", elsewhere.past(1, WHEN), 12);
        due("the twelfth", elsewhere.past(11, WHEN), 2);
        TrialBoots restored = behindStarts(12);
        restored.save(1);
        restored.repair(1);
        goOnWithStarts(restored, 13, 30);
        dueStarts(restored, 30, 30, 1);
        restored.restore(1);
        dueStarts(restored, 12, 12, GOLDEN);
        restored.undo();
        dueStarts(restored, 30, 30, 1);
        TrialBoots first = new TrialBoots();
        first.save(0);
        goOnWithStarts(first, 1, 13);
        first.restore(0);
        due("none was saved", first.past(0, AREA), NO_SUCH);
    }

    private static boolean isByPower(int start) {
        return start % 5 < 2;
    }

    private static TrialBoots behindStarts(int starts) {
        TrialBoots x = new TrialBoots();
        goOnWithStarts(x, 1, starts);
        return x;
    }

    /** Each start comes in its own tick; the causes do not come again in the same order after twelve starts. */
    private static void goOnWithStarts(TrialBoots x, int from, int to) {
        for (int i = from; i <= to; i++) {
            x.pass(1);
            x.start(isByPower(i));
        }
    }

    private static void dueStarts(TrialBoots x, int ticks, int starts, int area) {
        due("ticks", x.count(ALL_TICKS), ticks);
        due("starts", x.count(STARTS), starts);
        for (int back = 0; back < 12; back++) {
            due("of " + starts + ", back " + back, x.past(back, WHEN), starts - back);
            due("area, of " + starts + ", back " + back, x.past(back, AREA), area);
            due("cause, of " + starts + ", back " + back, x.past(back, CAUSE), isByPower(starts - back) ? BY_POWER : BY_HAND);
        }
        due("of " + starts + ", one more", x.past(12, WHEN), NO_SUCH);
    }

    private static void pastTicks() {
        TrialBoots x = trialOf(1, 3, 0);
        due("by hand, no tick had passed", x.past(0, WHEN), 0);
        x.pass(2);
        x.start(false);
        due("by hand, behind two ticks", x.past(0, WHEN), 2);
        x.pass(3);
        due("by the watchdog, with its tick", x.past(0, WHEN), 5);
        x.start(true);
        due("by the power, at once behind it", x.past(0, WHEN), 5);
        due("areas", 10 * x.past(0, AREA) + x.past(1, AREA), 20);
    }

    private static void pastRefused() {
        refusedFor("no start yet", TrialBoots::new, (x, back) -> x.past(back, AREA), NO_SUCH, -1, 0, 1, 11, 12, MIN, MAX);
        refusedFor("one start", Checks::busy, (x, back) -> x.past(back, AREA), NO_SUCH, -1, 1, 11, 12, MIN, MAX);
        refusedFor("what", Checks::busy, (x, what) -> x.past(0, what), BAD_VALUE, -1, 3, MIN, MAX);
        due("the first start", busy().past(0, AREA), GOLDEN);
    }

    private static void counts() {
        TrialBoots x = new TrialBoots();
        int[] first = {2, 0, 0, 0, 0, 0, 0, 9, 3, 10, 20, 0, 0};
        for (int what = 0; what < first.length; what++) {
            due("at first, what " + what, x.count(what), first[what]);
        }
        x.set(TRIES, 9);
        x.set(PATIENCE, 99);
        x.set(ENDURANCE, 60);
        confirmed(x, 1, 99);
        x.start(false);
        x.damage(1, 0, 2);
        x.pass(500);
        putText(x, "0".repeat(64));
        // It hung in its tick 2, and in its tick 100 there was a start; unsound as it was, golden runs from then on.
        int[] then = {2, 400, 0, 99, 3, 1, 501, 9, 9, 99, 60, 64, 6};
        for (int what = 0; what < then.length; what++) {
            due("then, what " + what, x.count(what), then[what]);
        }
    }

    private static void countRefused() {
        refusedFor("what", Checks::busy, (x, what) -> x.count(what), BAD_VALUE, -1, 13, MIN, MAX);
    }

    private static void padSums() {
        for (String text : new String[] {"", "0", "000", "g0", "0g", "00A0", "0".repeat(63), "0".repeat(63) + "g"}) {
            refused("pad '" + text + "'", () -> withPad(text), x -> x.padSum(), BAD_TEXT);
        }
        due("one word", withPad("00").padSum(), 3);
        due("a sum of 0", withPad("f8").padSum(), 0);
        due("a sum of 250", withPad("f7").padSum(), 250);
        due("32 words", withPad("00".repeat(32)).padSum(), 147);
        unchanged("padSum", () -> withPad("0aff"), x -> x.padSum());
    }

    // ---- what if

    private static void edgesOfWhatIfs() {
        edge(17, "Returns the area that would run; and 10 more if a slot would become bad by it, 20 more if both would.",
            PromiseEdgeTests::ifStartedAnswers);
        edge(18, "`ticks`: 1 to 500", PromiseEdgeTests::ifPassedTicks);
        edge(18, "0 how many starts there would be, 1 the area that would run then, 2 how the slot 0 would be then, 3 how the slot 1 "
            + "would be", PromiseEdgeTests::ifPassedWhats);
        edge(18, "Returns the number; BAD_VALUE if an argument is out of range.", PromiseEdgeTests::ifPassedRefused);
        edge(19, "Tells in how many ticks the next start comes (1: in the next one), if nothing else happens.",
            PromiseEdgeTests::nextStartTicks);
        edge(19, "Returns how many; NONE if there is none in 2000 ticks.", PromiseEdgeTests::nextStartNone);
        edge(20, "Tells how often a slot could be begun with a length, until a page that it takes is worn out.",
            PromiseEdgeTests::lastsSoOften);
        edge(20, "Returns how often; NO_SUCH if there is no such slot; BAD_VALUE if length is out of range.",
            PromiseEdgeTests::lastsRefused);
    }

    private static void ifStartedAnswers() {
        due("no slot", new TrialBoots().ifStarted(true), 2);
        for (int slot = 0; slot < 2; slot++) {
            int other = 1 - slot;
            due("the slot runs", goldenWith(slot, TRIAL).ifStarted(false), slot);
            due("one that is bad already", goldenWith(slot, BAD).ifStarted(false), 2);
            due("one that is being filled, by hand", goldenWith(slot, FILLING).ifStarted(false), 2);
            due("one that is being filled, by the power", goldenWith(slot, FILLING).ifStarted(true), 2);

            TrialBoots x = goldenWith(slot, TRIAL);
            x.damage(slot, 0, 1);
            due("it would become bad, then golden", x.ifStarted(false), 12);
            onTrial(x, other, 1, 0, 0);
            due("it would become bad, then the other one", x.ifStarted(true), 10 + other);
            x.damage(other, 0, 1);
            due("both would become bad", x.ifStarted(false), 22);
            due("and both do", x.start(false), 2);
            due("both are bad", x.ifStarted(false), 2);

            TrialBoots y = new TrialBoots();
            y.set(TRIES, 1);
            onTrial(y, slot, 1, 0, 0);
            y.start(false);
            due("no tries are left", y.ifStarted(false), 12);
            y.damage(slot, 0, 1);
            due("no tries are left, and it is unsound", y.ifStarted(false), 12);
            onTrial(y, other, 1, 0, 0);
            due("no tries are left, then the other one", y.ifStarted(false), 10 + other);
            y.damage(other, 0, 1);
            due("no tries are left, and the other one is unsound", y.ifStarted(false), 22);

            TrialBoots z = goldenWith(slot, TRIAL);
            onTrial(z, other, 2, 0, 0);
            z.damage(other, 0, 1);
            z.damage(slot, 0, 1);
            bad(z, slot, 3);
            due("one is bad already, the other one would become so", z.ifStarted(false), 12);
        }
    }

    private static void ifPassedTicks() {
        TrialBoots x = alwaysHanging();
        for (int ticks : new int[] {1, 2, 499, 500}) {
            due("starts", x.ifPassed(ticks, 0), ticks);
        }
        refusedFor("ticks", Checks::busy, (y, ticks) -> y.ifPassed(ticks, 0), BAD_VALUE, 0, 501, -1, MIN, MAX);
    }

    private static void ifPassedWhats() {
        int[] ticks = {1, 5, 6, 11, 12, 17, 18, 19, 500};
        int[] starts = {0, 0, 1, 1, 2, 2, 3, 3, 3};
        for (int i = 0; i < ticks.length; i++) {
            TrialBoots x = trialOf(2, 5, 0);
            due("starts in " + ticks[i], x.ifPassed(ticks[i], 0), starts[i]);
            due("area behind " + ticks[i], x.ifPassed(ticks[i], 1), ticks[i] < 18 ? 0 : GOLDEN);
            due("slot 0 behind " + ticks[i], x.ifPassed(ticks[i], 2), ticks[i] < 18 ? TRIAL : BAD);
            due("slot 1 behind " + ticks[i], x.ifPassed(ticks[i], 3), EMPTY);
            due("and so it comes", x.pass(ticks[i]), starts[i]);
            due("and so it comes", x.slot(0, STATE), ticks[i] < 18 ? TRIAL : BAD);
        }
        TrialBoots y = new TrialBoots();
        onTrial(y, 1, 1, 0, 3);
        y.start(false);
        due("slot 1 behind 2", y.ifPassed(2, 3), TRIAL);
        due("slot 1 behind 3", y.ifPassed(3, 3), CONFIRMED);
        due("slot 0 behind 3", y.ifPassed(3, 2), EMPTY);
        due("area behind 3", y.ifPassed(3, 1), 1);
    }

    private static void ifPassedRefused() {
        refusedFor("what", Checks::busy, (x, what) -> x.ifPassed(1, what), BAD_VALUE, -1, 4, MIN, MAX);
        refused("both", Checks::busy, x -> x.ifPassed(0, 4), BAD_VALUE);
        unchanged("it", () -> trialOf(1, 1, 0), x -> x.ifPassed(500, 3));
    }

    private static void nextStartTicks() {
        due("in the next tick", trialOf(1, 1, 0).nextStart(), 1);
        due("in two", trialOf(2, 1, 0).nextStart(), 2);
        due("in two", trialOf(1, 2, 0).nextStart(), 2);
        due("the trial ends", trialOf(1, 0, 0).nextStart(), 10);
        due("the trial ends last of all", trialOf(99, 0, 0).nextStart(), 990);
        due("the latest hanging", trialOf(99, 255, 254).nextStart(), 353);
        TrialBoots x = trialOf(3, 5, 0);
        for (int left = 7; left >= 1; left--) {
            due("so many are left", x.nextStart(), left);
            due("by how it comes", x.ifPassed(left, 0), 1);
            if (left > 1) {
                due("not ahead of it", x.ifPassed(left - 1, 0), 0);
            }
            x.pass(1);
        }
        due("started, and all begins anew", x.nextStart(), 7);
        TrialBoots late = trialOf(99, 1, 0);
        late.pass(50);
        late.set(PATIENCE, 1);
        due("more than PATIENCE by now", late.nextStart(), 1);
    }

    private static void nextStartNone() {
        due("golden", new TrialBoots().nextStart(), NONE);
        due("a confirmed one", running().nextStart(), NONE);
        due("one that will confirm itself", trialOf(99, 0, 255).nextStart(), NONE);
        due("one that confirms itself in the last tick", trialOf(1, 0, 10).nextStart(), NONE);
        due("one tick too late for that", trialOf(1, 0, 11).nextStart(), 10);
        TrialBoots x = trialOf(99, 100, 1);
        x.pass(100);
        due("a confirmed one that hangs", x.nextStart(), 98);
        x.start(false);
        x.pass(99);
        x.damage(0, 0, 100);
        due("it will not hang any more", x.nextStart(), NONE);
        TrialBoots y = trialOf(99, 3, 1);
        y.pass(2);
        y.damage(0, 0, 1);
        due("the tick in which it would hang is the one that was", y.nextStart(), NONE);
        unchanged("it", () -> trialOf(99, 0, 0), z -> z.nextStart());
    }

    private static void lastsSoOften() {
        for (int endurance : new int[] {1, 2, 20, 60}) {
            TrialBoots x = new TrialBoots();
            x.set(ENDURANCE, endurance);
            due("no wear, the least length", x.lasts(0, 2), endurance);
            due("no wear, the greatest length", x.lasts(0, 32), endurance);
            for (int left = endurance; left > 0; left--) {
                due("so often", x.lasts(0, 5), left);
                due("begin", x.begin(0, 0, 5, 0), endurance - left + 1);
            }
            due("worn out", x.lasts(0, 5), 0);
            due("begin", x.begin(0, 0, 5, 0), NOT_POSSIBLE);
            due("the other slot", x.lasts(1, 5), endurance);
            x.set(ENDURANCE, 1);
            due("worn out, or more", x.lasts(0, 5), 0);
        }
        TrialBoots x = new TrialBoots();
        confirmed(x, 0, 5);
        due("one that runs", x.lasts(0, 2), 19);
        due("the other one, whatever its version", x.lasts(1, 2), 20);
    }

    private static void lastsRefused() {
        refusedFor("slot", Checks::busy, (x, slot) -> x.lasts(slot, 2), NO_SUCH, -1, 2, MIN, MAX);
        refusedFor("length", Checks::busy, (x, length) -> x.lasts(0, length), BAD_VALUE, 1, 33, 0, -1, MIN, MAX);
        for (int length = 2; length <= 32; length++) {
            due("length " + length, busy().lasts(0, length), 5);
            due("length " + length, busy().lasts(1, length), 6);
        }
    }

    // ---- texts

    private static void edgesOfTexts() {
        edge(21, "`characters`: 1 to 8 characters", PromiseEdgeTests::putOneToEight);
        edge(21, "its lowest 8 bits are the last character, the next 8 bits the one before, and so on", PromiseEdgeTests::putOrder);
        edge(21, "8 bits that are 0 mean that there are no more characters, and everything above them has to be 0, too",
            PromiseEdgeTests::putZeros);
        edge(21, "a code is not 33 to 126", PromiseEdgeTests::putCodes);
        edge(21, "TOO_MANY if the pad would be longer than 64", PromiseEdgeTests::putTooMany);
        edge(22, "Empties the pad, and returns the length that it had.", PromiseEdgeTests::wipes);
        edge(23, "Returns the fault of the pad, NONE if there is none.", PromiseEdgeTests::faults);
    }

    private static void putOneToEight() {
        for (int length = 1; length <= 8; length++) {
            due("characters", new TrialBoots().put(packed("0".repeat(length))), length);
            due("behind others", withPad("abc").put(packed("0".repeat(length))), 3 + length);
        }
        refused("none", Checks::busy, x -> x.put(0), BAD_VALUE);
        due("8 of the greatest code", new TrialBoots().put(packed("~~~~~~~~")), 8);
        due("8 of the least code", new TrialBoots().put(packed("!!!!!!!!")), 8);
    }

    private static void putOrder() {
        TrialBoots x = new TrialBoots();
        x.put(packed("12345678"));
        due("eight", x.padSum(), sumOf(0x12, 0x34, 0x56, 0x78));
        x.wipe();
        x.put(0x3161L);
        due("two", x.padSum(), sumOf(0x1a));
        x.put(packed("b"));
        x.put(packed("2c3"));
        due("behind them", x.padSum(), sumOf(0x1a, 0xb2, 0xc3));
    }

    private static void putZeros() {
        for (int below = 0; below < 7; below++) {
            long last = packed("a".repeat(below));
            due("nothing above 8 bits that are 0", new TrialBoots().put(last), below == 0 ? BAD_VALUE : below);
            for (int above = below + 1; above < 8; above++) {
                long characters = last | 0x61L << 8 * above;
                refused(Long.toHexString(characters), Checks::busy, x -> x.put(characters), BAD_VALUE);
            }
            for (int bit = 8 * below + 8; bit < 64; bit++) {
                due("the bit " + bit + " above " + below, new TrialBoots().put(last | 1L << bit), BAD_VALUE);
            }
        }
        refused("the highest bit alone", Checks::busy, x -> x.put(Long.MIN_VALUE), BAD_VALUE);
        refused("the highest bit above a character", Checks::busy, x -> x.put(Long.MIN_VALUE | 'a'), BAD_VALUE);
    }

    private static void putCodes() {
        for (int code = 0; code < 256; code++) {
            int want = code >= 33 && code <= 126 ? 1 : BAD_VALUE;
            due("code " + code, new TrialBoots().put(code), want);
            due("code " + code + " ahead of another", new TrialBoots().put((long) code << 8 | 'a'),
                want == 1 ? 2 : code == 0 ? 1 : BAD_VALUE);
            due("code " + code + " behind another", new TrialBoots().put((long) 'a' << 8 | code), want == 1 ? 2 : BAD_VALUE);
            due("code " + code + " ahead of seven", new TrialBoots().put((long) code << 56 | packed("aaaaaaa")),
                want == 1 ? 8 : code == 0 ? 7 : BAD_VALUE);
        }
        for (int code : new int[] {1, 32, 127, 128, 255}) {
            refused("code " + code, Checks::busy, x -> x.put((long) 'a' << 8 | code), BAD_VALUE);
        }
        refused("all bits", Checks::busy, x -> x.put(-1), BAD_VALUE);
        refused("all bits but the highest", Checks::busy, x -> x.put(Long.MAX_VALUE), BAD_VALUE);
    }

    private static void putTooMany() {
        for (int added = 1; added <= 8; added++) {
            long characters = packed("f".repeat(added));
            due("just 64", withPad("0".repeat(64 - added)).put(characters), 64);
            int length = 65 - added;
            refused("65", () -> withPad("0".repeat(length)), x -> x.put(characters), TOO_MANY);
        }
        TrialBoots x = withPad("0".repeat(64));
        x.wipe();
        due("room again", x.put('a'), 1);
    }

    private static void wipes() {
        for (int length : new int[] {0, 1, 2, 63, 64}) {
            TrialBoots x = withPad("0".repeat(length));
            due("length", x.wipe(), length);
            due("empty", x.count(PAD), 0);
            due("empty already", x.wipe(), 0);
            due("no change", x.count(UNDOABLE), 0);
        }
        TrialBoots x = withPad("ffff");
        x.wipe();
        x.put('0');
        due("nothing of the text that was", x.fault(), 1);
        due("a text with a fault", withPad("gg").wipe(), 2);
    }

    private static void faults() {
        due("none", withPad("0f").fault(), NONE);
        due("empty", withPad("").fault(), 0);
        due("at the first place", withPad("~").fault(), 0);
        due("at the last place", withPad("0".repeat(63) + "~").fault(), 63);
        due("too early", withPad("0".repeat(63)).fault(), 63);
        due("64 digits", withPad("f".repeat(64)).fault(), NONE);
        unchanged("it", () -> withPad("0aff"), x -> x.fault());
    }

    // ---- undo, saving

    private static void edgesOfUndoAndSaving() {
        edge(24, "Undoes the latest change: everything except the pad, the slots of save() and the history is as it was before it.",
            PromiseEdgeTests::undoesEachChange);
        edge(24, "everything except the pad, the slots of save() and the history", PromiseEdgeTests::undoLeavesPadAndSaved);
        edge(24, "A history of at most 6 states is kept", PromiseEdgeTests::sixStates);
        edge(24, "each method that is a change, and returns no error, records the state before it (also if nothing is different then)",
            PromiseEdgeTests::recorded);
        edge(24, "when one more is recorded, the oldest one is dropped", PromiseEdgeTests::oldestIsDropped);
        edge(24, "Returns how many changes can be undone then; NOT_POSSIBLE if there is none.", PromiseEdgeTests::undoReturns);
        edge(25, "Saves everything except the pad, the history and what was saved, as a saved state, and overwrites the one that was "
            + "there.", PromiseEdgeTests::saves);
        edge(25, "Returns the area that runs; BAD_VALUE if there is no such place.", PromiseEdgeTests::savePlaces);
        edge(26, "Restores a saved state, which stays.", PromiseEdgeTests::restores);
        edge(26, "BAD_VALUE if there is no such place; NOT_POSSIBLE if nothing was saved there", PromiseEdgeTests::restorePlaces);
    }

    private static final int CHANGES = 12;

    /** The object on which the change of this number is possible. */
    private static TrialBoots readyFor(int change) {
        if (change == 10) {
            return trialOf(1, 1, 0);
        }
        if (change == 11) {
            return trialOf(9, 0, 2);
        }
        TrialBoots x = busy();
        if (change == 4) {
            x.fill(0, 1);
            x.fill(0, 2);
        }
        return x;
    }

    private static int make(TrialBoots x, int change) {
        switch (change) {
            case 0: return x.set(TRIES, 9);
            case 1: return x.begin(1, 9, 32, 250);
            case 2: return x.fill(0, 0);
            case 3: return x.fillAll(0);
            case 4: return x.finish(0);
            case 5: return x.damage(1, 31, 255);
            case 6: return x.repair(1);
            case 7: return x.start(false);
            case 8: return x.start(true);
            case 9: return x.restore(0);
            default: return x.pass(500);
        }
    }

    private static void undoesEachChange() {
        for (int change = 0; change < CHANGES; change++) {
            String was = view(readyFor(change));
            TrialBoots done = readyFor(change);
            due("change " + change + " is none that is refused", make(done, change) >= 0 ? 1 : 0, 1);
            due("change " + change + " changes something", view(done).equals(was) ? 0 : 1, 1);
            TrialBoots undone = readyFor(change);
            make(undone, change);
            undone.undo();
            same("change " + change + " undone", view(undone), was);
        }
    }

    private static void undoLeavesPadAndSaved() {
        TrialBoots x = busy();
        due("fillAll", x.fillAll(0), 3);
        x.undo();
        due("the pad stays empty", x.count(PAD), 0);
        TrialBoots y = busy();
        y.set(TRIES, 4);
        y.wipe();
        y.undo();
        due("a wipe is not undone", y.count(PAD), 0);
        due("but the set", y.count(SETTINGS), 3);
        TrialBoots z = new TrialBoots();
        z.set(TRIES, 4);
        z.save(0);
        putText(z, "ab");
        z.undo();
        due("the pad stays", z.count(PAD), 2);
        due("undone", z.count(SETTINGS), 3);
        due("what was saved stays", z.restore(0), GOLDEN);
        due("what was saved stays", z.count(SETTINGS), 4);
        z.undo();
        due("the restore is undone", z.count(SETTINGS), 3);
        due("what was saved stays", z.restore(0), GOLDEN);
        due("what was saved stays", z.count(SETTINGS), 4);
    }

    private static void sixStates() {
        TrialBoots x = new TrialBoots();
        for (int i = 1; i <= 20; i++) {
            x.set(PATIENCE, 10 + i);
            due("changes that can be undone", x.count(UNDOABLE), Math.min(i, 6));
        }
        for (int i = 1; i <= 6; i++) {
            due("left", x.undo(), 6 - i);
            due("undone", x.count(SETTINGS + PATIENCE), 30 - i);
        }
        due("no seventh", x.undo(), NOT_POSSIBLE);
        due("it stays", x.count(SETTINGS + PATIENCE), 24);
    }

    private static void recorded() {
        changed("set to the same", TrialBoots::new, x -> x.set(TRIES, 3), 3, 1);
        changed("start of golden", TrialBoots::new, x -> x.start(false), GOLDEN, 1);
        changed("start by the power", TrialBoots::new, x -> x.start(true), GOLDEN, 1);
        changed("pass", TrialBoots::new, x -> x.pass(1), 0, 1);
        changed("begin", TrialBoots::new, x -> x.begin(0, 0, 2, 0), 1, 1);
        changed("fill", PromiseEdgeTests::begun, x -> x.fill(0, 255), 1, 2);
        changed("fillAll", behind(PromiseEdgeTests::begun, x -> x.put(packed("ff"))), x -> x.fillAll(0), 1, 2);
        changed("finish of a sound one", () -> filled(9), x -> x.finish(0), 1, 4);
        changed("finish of an unsound one", () -> filled(8), x -> x.finish(0), 0, 4);
        changed("damage", TrialBoots::new, x -> x.damage(0, 0, 255), 0, 1);
        changed("repair", TrialBoots::new, x -> x.repair(0), 1, 1);
        changed("repair of a repaired one", behind(TrialBoots::new, x -> x.repair(0)), x -> x.repair(0), 2, 2);
        changed("restore of what is", behind(TrialBoots::new, x -> x.save(0)), x -> x.restore(0), GOLDEN, 1);
        changed("put is no change", TrialBoots::new, x -> x.put('a'), 1, 0);
        changed("wipe is no change", TrialBoots::new, x -> x.wipe(), 0, 0);
        changed("save is no change", TrialBoots::new, x -> x.save(1), GOLDEN, 0);
        changed("undo is no change", behind(TrialBoots::new, x -> x.start(false)), x -> x.undo(), 0, 0);
        changed("an error is not recorded", TrialBoots::new, x -> x.set(TRIES, 10), BAD_VALUE, 0);
    }

    private static TrialBoots begun() {
        TrialBoots x = new TrialBoots();
        x.begin(0, 0, 2, 0);
        return x;
    }

    private static TrialBoots filled(int told) {
        TrialBoots x = new TrialBoots();
        beginAndFill(x, 0, 0, told, 0, 0);
        return x;
    }

    private static void oldestIsDropped() {
        for (int changes = 5; changes <= 14; changes++) {
            int kept = Math.min(changes, 6);
            TrialBoots x = new TrialBoots();
            for (int i = 0; i < changes; i++) {
                x.pass(1);
            }
            for (int i = 1; i <= kept; i++) {
                x.undo();
                due(changes + " changes, " + i + " undone", x.count(ALL_TICKS), changes - i);
            }
            due("no more", x.undo(), NOT_POSSIBLE);
        }
        TrialBoots y = new TrialBoots();
        for (int i = 0; i < 6; i++) {
            y.pass(1);
        }
        y.undo();
        y.undo();
        y.pass(10);
        y.pass(10);
        due("full again", y.count(UNDOABLE), 6);
        y.pass(10);
        due("the oldest one is dropped", y.count(UNDOABLE), 6);
        int[] ticks = {24, 14, 4, 3, 2, 1};
        for (int i = 0; i < ticks.length; i++) {
            due("left", y.undo(), 5 - i);
            due("ticks", y.count(ALL_TICKS), ticks[i]);
        }
        due("no more", y.undo(), NOT_POSSIBLE);
    }

    private static void undoReturns() {
        refused("nothing was done", TrialBoots::new, x -> x.undo(), NOT_POSSIBLE);
        refused("nothing but texts and saving", behind(() -> withPad("ab"), x -> x.save(0)), x -> x.undo(), NOT_POSSIBLE);
        TrialBoots x = new TrialBoots();
        x.start(false);
        due("the only one", x.undo(), 0);
        due("no start", x.count(STARTS), 0);
        due("no start", x.past(0, AREA), NO_SUCH);
        due("no more", x.undo(), NOT_POSSIBLE);
        x.start(false);
        x.start(false);
        due("the second one", x.undo(), 1);
        due("the first one stays", x.count(STARTS), 1);
    }

    private static void saves() {
        for (int place = 0; place < 2; place++) {
            for (int change = 0; change < CHANGES; change++) {
                TrialBoots x = readyFor(change);
                x.save(place);
                make(x, change);
                x.restore(place);
                same("change " + change + " behind a save", view(x), view(readyFor(change)));
            }
        }
        TrialBoots y = withPad("ab");
        y.start(false);
        y.save(0);
        y.wipe();
        y.start(false);
        y.start(false);
        y.restore(0);
        due("the pad is not saved", y.count(PAD), 0);
        due("the history is not saved", y.count(UNDOABLE), 4);
        due("the starts are", y.count(STARTS), 1);
        TrialBoots z = new TrialBoots();
        z.save(0);
        z.start(false);
        z.save(1);
        z.start(false);
        z.save(0);
        z.restore(1);
        due("what was saved is not saved", z.count(STARTS), 1);
        z.restore(0);
        due("the one that was there is overwritten", z.count(STARTS), 2);
    }

    private static void savePlaces() {
        refusedFor("place", Checks::busy, (x, place) -> x.save(place), BAD_VALUE, -1, 2, MIN, MAX);
        for (int place = 0; place < 2; place++) {
            due("golden", busy().save(place), GOLDEN);
            due("the slot 0", running().save(place), 0);
            TrialBoots x = goldenWith(1, CONFIRMED);
            x.start(false);
            due("the slot 1", x.save(place), 1);
            TrialBoots only = new TrialBoots();
            only.save(place);
            due("this place", only.restore(place), GOLDEN);
            due("the other place", only.restore(1 - place), NOT_POSSIBLE);
        }
    }

    private static void restores() {
        TrialBoots x = trialOf(5, 0, 0);
        x.save(0);
        x.pass(30);
        due("the area that runs then", x.restore(0), 0);
        due("its ticks", x.count(TICKS), 0);
        x.pass(7);
        x.damage(0, 0, 1);
        x.set(PATIENCE, 9);
        due("again, as it stays", x.restore(0), 0);
        same("as it was", view(x), view(trialOf(5, 0, 0)));
        due("the history goes on", x.count(UNDOABLE), 6);
        TrialBoots y = new TrialBoots();
        y.save(1);
        y.start(false);
        y.restore(1);
        due("a change", y.count(UNDOABLE), 2);
        due("undone", y.undo(), 1);
        due("undone", y.count(STARTS), 1);
        TrialBoots full = busy();
        full.restore(1);
        due("a full history", full.count(UNDOABLE), 6);
        due("the pad stays", full.count(PAD), 4);
    }

    private static void restorePlaces() {
        refusedFor("place", Checks::busy, (x, place) -> x.restore(place), BAD_VALUE, -1, 2, MIN, MAX);
        refusedFor("nothing saved", TrialBoots::new, (x, place) -> x.restore(place), NOT_POSSIBLE, 0, 1);
        refused("nothing saved in the other place", Checks::running, x -> x.restore(1), NOT_POSSIBLE);
        due("something saved", running().restore(0), 0);
        TrialBoots x = new TrialBoots();
        x.start(false);
        x.save(0);
        x.undo();
        due("an undo does not take it away", x.restore(0), GOLDEN);
    }
}
