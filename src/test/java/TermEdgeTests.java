/** The sentences of "Terms" in ../shared/DOC.md that name a boundary case: each is quoted, and has a test of its own. */
public final class TermEdgeTests extends Checks {
    public static void main(String[] args) {
        conventions();
        settings();
        images();
        slots();
        starting();
        ticks();
        texts();
        end("the edges of the terms hold");
    }

    private static void edge(String sentence, Runnable test) {
        testing("\"" + sentence + "\"");
        test.run();
    }

    private static void conventions() {
        edge("A method that fails returns one of the error codes NO_SUCH (-1), BAD_VALUE (-2), BAD_TEXT (-3), TOO_MANY (-4) and "
            + "NOT_POSSIBLE (-5)", TermEdgeTests::errorCodes);
        edge("it names its errors in the order in which they are checked, and the first one that applies is returned",
            TermEdgeTests::orderOfErrors);
        edge("A call that returns an error changes nothing.", TermEdgeTests::errorsChangeNothing);
        edge("NONE (-6) is not an error; it is returned only if no error applies.", TermEdgeTests::noneIsNoError);
        edge("Everything is numbered from 0.", TermEdgeTests::numberedFromZero);
        edge("Ahead of the calls `slot`, `word`, `wear`, `past`, `count`, `padSum` the interface says: ---- what there is; nothing "
            + "changes.", TermEdgeTests::questionsChangeNothing);
        edge("Ahead of the calls `ifStarted`, `ifPassed`, `nextStart`, `lasts` the interface says: ---- what if; nothing changes.",
            TermEdgeTests::whatIfsChangeNothing);
        edge("An object is used for at most 512 calls after it has been made", TermEdgeTests::fiveHundredTwelveCalls);
    }

    private static void errorCodes() {
        due("NO_SUCH", TrialBoots.NO_SUCH, -1);
        due("BAD_VALUE", TrialBoots.BAD_VALUE, -2);
        due("BAD_TEXT", TrialBoots.BAD_TEXT, -3);
        due("TOO_MANY", TrialBoots.TOO_MANY, -4);
        due("NOT_POSSIBLE", TrialBoots.NOT_POSSIBLE, -5);
        due("NONE", TrialBoots.NONE, -6);
        due("TRIES", TrialBoots.TRIES, 0);
        due("PATIENCE", TrialBoots.PATIENCE, 1);
        due("ENDURANCE", TrialBoots.ENDURANCE, 2);
    }

    private static void orderOfErrors() {
        TrialBoots x = running();
        due("begin: no such slot, wrong values", x.begin(2, 100, 33, 251), NO_SUCH);
        due("begin: no such slot, below the least version", x.begin(2, 4, 2, 0), NO_SUCH);
        due("begin: a wrong version, the slot runs", x.begin(0, 100, 2, 0), BAD_VALUE);
        due("begin: a wrong length, below the least version", x.begin(1, 4, 33, 0), BAD_VALUE);
        due("begin: a wrong sum, the slot runs", x.begin(0, 5, 2, 251), BAD_VALUE);
        due("fill: no such slot, a wrong word", x.fill(2, 256), NO_SUCH);
        due("fill: a wrong word, the slot is not being filled", x.fill(0, 256), BAD_VALUE);
        due("fillAll: no such slot, the pad is empty", x.fillAll(2), NO_SUCH);
        due("fillAll: the pad is empty, the slot is not being filled", x.fillAll(0), BAD_TEXT);
        putText(x, "010203");
        due("fillAll: the slot is not being filled, and lacks no words", x.fillAll(0), NOT_POSSIBLE);
        due("fillAll: too many words", x.fillAll(1), TOO_MANY);
        putText(x, "04g");
        due("fillAll: a fault behind too many words", x.fillAll(1), BAD_TEXT);
        due("fillAll: no such slot, the pad has a fault", x.fillAll(-1), NO_SUCH);
        due("damage: no such slot, wrong bits", x.damage(2, 0, 0), NO_SUCH);
        due("damage: no such word, wrong bits", x.damage(0, 32, 256), NO_SUCH);
        due("repair: no such slot, golden does not run", x.repair(2), NO_SUCH);
        due("slot: no such slot, a wrong what", x.slot(2, 9), NO_SUCH);
        due("past: no such start, a wrong what", x.past(1, 3), NO_SUCH);
        due("lasts: no such slot, a wrong length", x.lasts(2, 33), NO_SUCH);
        putText(x, "0".repeat(64 - 9));
        due("put: a wrong code, too many", x.put(32), BAD_VALUE);
        due("restore: no such place, in which nothing was saved", x.restore(2), BAD_VALUE);
    }

    private static void errorsChangeNothing() {
        refused("set: value", Checks::busy, x -> x.set(TRIES, 10), BAD_VALUE);
        refused("set: setting", Checks::busy, x -> x.set(3, 1), BAD_VALUE);
        refused("begin: slot", Checks::busy, x -> x.begin(2, 9, 2, 0), NO_SUCH);
        refused("begin: version", Checks::busy, x -> x.begin(0, 100, 2, 0), BAD_VALUE);
        refused("begin: length", Checks::busy, x -> x.begin(0, 9, 33, 0), BAD_VALUE);
        refused("begin: sum", Checks::busy, x -> x.begin(0, 9, 2, 251), BAD_VALUE);
        refused("begin: runs", Checks::running, x -> x.begin(0, 9, 2, 0), NOT_POSSIBLE);
        refused("fill: slot", Checks::busy, x -> x.fill(2, 0), NO_SUCH);
        refused("fill: word", Checks::busy, x -> x.fill(0, 256), BAD_VALUE);
        refused("fill: not being filled", Checks::busy, x -> x.fill(1, 0), NOT_POSSIBLE);
        refused("fillAll: slot", Checks::busy, x -> x.fillAll(2), NO_SUCH);
        refused("fillAll: text", behind(Checks::busy, x -> x.put('g')), x -> x.fillAll(0), BAD_TEXT);
        refused("fillAll: not being filled", Checks::busy, x -> x.fillAll(1), NOT_POSSIBLE);
        refused("fillAll: too many", behind(Checks::busy, x -> x.put(packed("00"))), x -> x.fillAll(0), TOO_MANY);
        refused("finish: slot", Checks::busy, x -> x.finish(2), NO_SUCH);
        refused("finish: lacks words", Checks::busy, x -> x.finish(0), NOT_POSSIBLE);
        refused("damage: slot", Checks::busy, x -> x.damage(2, 0, 1), NO_SUCH);
        refused("damage: word", Checks::busy, x -> x.damage(0, 32, 1), NO_SUCH);
        refused("damage: bits", Checks::busy, x -> x.damage(0, 0, 256), BAD_VALUE);
        refused("repair: slot", Checks::busy, x -> x.repair(2), NO_SUCH);
        refused("repair: golden does not run", Checks::running, x -> x.repair(1), NOT_POSSIBLE);
        refused("pass: ticks", Checks::busy, x -> x.pass(501), BAD_VALUE);
        refused("slot: slot", Checks::busy, x -> x.slot(2, 0), NO_SUCH);
        refused("slot: what", Checks::busy, x -> x.slot(0, 9), BAD_VALUE);
        refused("word: word", Checks::busy, x -> x.word(0, 32), NO_SUCH);
        refused("wear: page", Checks::busy, x -> x.wear(0, 8), NO_SUCH);
        refused("past: back", Checks::busy, x -> x.past(1, 0), NO_SUCH);
        refused("past: what", Checks::busy, x -> x.past(0, 3), BAD_VALUE);
        refused("count: what", Checks::busy, x -> x.count(13), BAD_VALUE);
        refused("padSum: text", behind(Checks::busy, x -> x.put('g')), x -> x.padSum(), BAD_TEXT);
        refused("ifPassed: ticks", Checks::busy, x -> x.ifPassed(501, 0), BAD_VALUE);
        refused("ifPassed: what", Checks::busy, x -> x.ifPassed(1, 4), BAD_VALUE);
        refused("lasts: slot", Checks::busy, x -> x.lasts(2, 2), NO_SUCH);
        refused("lasts: length", Checks::busy, x -> x.lasts(0, 33), BAD_VALUE);
        refused("put: code", Checks::busy, x -> x.put(0x6161616161616120L), BAD_VALUE);
        refused("put: too many", () -> withPad("0".repeat(60)), x -> x.put(packed("00000")), TOO_MANY);
        refused("undo", TrialBoots::new, x -> x.undo(), NOT_POSSIBLE);
        refused("save: place", Checks::busy, x -> x.save(2), BAD_VALUE);
        refused("restore: place", Checks::busy, x -> x.restore(2), BAD_VALUE);
        refused("restore: nothing saved", Checks::running, x -> x.restore(1), NOT_POSSIBLE);
    }

    private static void noneIsNoError() {
        TrialBoots x = new TrialBoots();
        due("slot 0, length 0", x.slot(0, SUM), NONE);
        due("no slot 2, whatever its length", x.slot(2, SUM), NO_SUCH);
        due("no fault, but none is asked for in padSum", x.padSum(), BAD_TEXT);
        due("no next start", x.nextStart(), NONE);
        x.put(packed("00"));
        due("no fault", x.fault(), NONE);
    }

    private static void numberedFromZero() {
        for (int number = -1; number <= 13; number++) {
            TrialBoots x = busy();
            due("setting " + number, x.set(number, 1) >= 0 ? 1 : 0, number >= 0 && number < 3 ? 1 : 0);
            due("slot " + number, x.slot(number, STATE) >= 0 ? 1 : 0, number == 0 || number == 1 ? 1 : 0);
            due("area " + number, x.word(number, 0) >= 0 ? 1 : 0, number >= 0 && number < 3 ? 1 : 0);
            due("page " + number, x.wear(0, number) >= 0 ? 1 : 0, number >= 0 && number < 8 ? 1 : 0);
            due("start " + number, x.past(number, AREA) >= 0 ? 1 : 0, number == 0 ? 1 : 0);
            due("place " + number, x.save(number) >= 0 ? 1 : 0, number == 0 || number == 1 ? 1 : 0);
            due("count " + number, x.count(number) >= 0 ? 1 : 0, number >= 0 && number < 13 ? 1 : 0);
        }
        TrialBoots y = new TrialBoots();
        for (int word = -1; word <= 32; word++) {
            due("word " + word, y.word(0, word), word >= 0 && word < 32 ? 255 : NO_SUCH);
        }
    }

    private static void questionsChangeNothing() {
        unchanged("slot", Checks::busy, x -> x.slot(1, SUM));
        unchanged("word", Checks::busy, x -> x.word(1, 0));
        unchanged("wear", Checks::busy, x -> x.wear(1, 0));
        unchanged("past", Checks::busy, x -> x.past(0, WHEN));
        unchanged("count", Checks::busy, x -> x.count(GOLDEN_SUM));
        unchanged("padSum", Checks::busy, x -> x.padSum());
    }

    private static void whatIfsChangeNothing() {
        unchanged("ifStarted by hand", Checks::busy, x -> x.ifStarted(false));
        unchanged("ifStarted by the power", Checks::busy, x -> x.ifStarted(true));
        unchanged("ifPassed", () -> trialOf(1, 3, 0), x -> x.ifPassed(500, 0));
        unchanged("ifPassed with a slot that confirms itself", () -> trialOf(1, 0, 3), x -> x.ifPassed(500, 2));
        unchanged("nextStart", () -> trialOf(99, 0, 0), x -> x.nextStart());
        unchanged("lasts", Checks::busy, x -> x.lasts(0, 32));
        TrialBoots y = new TrialBoots();
        for (int i = 0; i < 3; i++) {
            due("ifStarted behind others", y.ifStarted(true), 2);
            due("ifPassed behind others", y.ifPassed(500, 0), 0);
        }
        due("no start was counted", y.count(STARTS), 0);
    }

    private static void fiveHundredTwelveCalls() {
        TrialBoots x = alwaysHanging();
        int before = x.count(ALL_TICKS);
        // Ten calls made it, one has asked for the ticks, and five more follow the last of these.
        int calls = 512 - 16;
        for (int i = 0; i < calls; i++) {
            due("starts", x.pass(500), 500);
        }
        due("ticks", x.count(ALL_TICKS), before + 500 * calls);
        due("starts by the watchdog", x.count(WATCHDOG), 500 * calls);
        due("the latest", x.past(0, WHEN), before + 500 * calls);
        due("the oldest", x.past(11, WHEN), before + 500 * calls - 11);
        due("one is gone", x.past(12, WHEN), NO_SUCH);
    }

    // ---- settings

    private static void settings() {
        edge("TRIES (1 to 9; 3).", () -> range(TRIES, 9, 3));
        edge("PATIENCE (1 to 99; 10), ticks.", () -> range(PATIENCE, 99, 10));
        edge("ENDURANCE (1 to 60; 20).", () -> range(ENDURANCE, 60, 20));
        edge("TRIES (1 to 9; 3).", TermEdgeTests::triesAtTheirEnds);
        edge("PATIENCE (1 to 99; 10), ticks.", TermEdgeTests::patienceAtItsEnds);
        edge("ENDURANCE (1 to 60; 20).", TermEdgeTests::enduranceAtItsEnds);
    }

    private static void range(int setting, int most, int first) {
        TrialBoots x = new TrialBoots();
        due("first value", x.count(SETTINGS + setting), first);
        due("the least value is taken", x.set(setting, 1), first);
        due("the least value", x.count(SETTINGS + setting), 1);
        due("the greatest value is taken", x.set(setting, most), 1);
        due("the greatest value", x.count(SETTINGS + setting), most);
        refusedFor("value", Checks::busy, (y, value) -> y.set(setting, value), BAD_VALUE, 0, most + 1, -1, MIN, MAX);
    }

    private static void triesAtTheirEnds() {
        for (int tries : new int[] {1, 3, 9}) {
            TrialBoots x = new TrialBoots();
            x.set(TRIES, tries);
            onTrial(x, 0, 1, 0, 0);
            for (int i = 0; i < tries; i++) {
                due("start " + i + " of " + tries, x.start(false), 0);
            }
            due("one start more than " + tries, x.start(false), GOLDEN);
        }
    }

    private static void patienceAtItsEnds() {
        for (int patience : new int[] {1, 10, 99}) {
            TrialBoots x = trialOf(patience, 7, 0);
            due("hangs in tick 7, patience " + patience, x.nextStart(), 6 + patience);
            x.damage(0, 0, 7);
            due("never hangs, patience " + patience, x.nextStart(), 10 * patience);
        }
    }

    private static void enduranceAtItsEnds() {
        for (int endurance : new int[] {1, 20, 60}) {
            TrialBoots x = new TrialBoots();
            x.set(ENDURANCE, endurance);
            for (int i = 1; i <= endurance; i++) {
                due("begin", x.begin(0, 1, 2, 0), i);
            }
            due("one more than " + endurance, x.begin(0, 1, 2, 0), NOT_POSSIBLE);
        }
    }

    // ---- images

    private static void images() {
        edge("There are three areas: the slots 0 and 1, and the golden copy, 2.", TermEdgeTests::threeAreas);
        edge("Each has 32 words, 0 to 255, in 8 pages of 4 words", TermEdgeTests::wordsOfAreas);
        edge("(the page of a word is its number divided by 4, rounded down)", TermEdgeTests::pageOfWord);
        edge("An image is the first so many words of an area, 2 to 32 of them: its length.", TermEdgeTests::lengths);
        edge("it is 1 at first, and for each of its words, in order, becomes 3 times itself and the word, left over by 251",
            TermEdgeTests::sums);
        edge("The word 0 of an image tells when it hangs: in the tick with this number behind its start (0: never).",
            TermEdgeTests::hangsInTick);
        edge("The word 1 tells when it confirms itself: in the tick with this number (0: never)", TermEdgeTests::confirmsInTick);
        edge("unless it hangs in this tick or hung ahead of it", TermEdgeTests::hangsOrConfirms);
        edge("The golden copy has an image of 2 words, 0 and 0, and the version 0", TermEdgeTests::goldenImage);
        edge("it cannot be changed", TermEdgeTests::goldenStays);
    }

    private static void threeAreas() {
        refusedFor("area", Checks::busy, (x, area) -> x.word(area, 0), NO_SUCH, -1, 3, MIN, MAX);
        TrialBoots x = busy();
        due("the slot 0", x.word(0, 0), 9);
        due("the slot 1", x.word(1, 0), 5);
        due("the golden copy", x.word(2, 0), 0);
    }

    private static void wordsOfAreas() {
        for (int area = 0; area < 3; area++) {
            int its = area;
            refusedFor("area " + its + ", word", Checks::busy, (x, word) -> x.word(its, word), NO_SUCH, -1, 32, MIN, MAX);
        }
        TrialBoots x = new TrialBoots();
        x.begin(1, 0, 32, 0);
        due("the least word", x.fill(1, 0), 1);
        due("the greatest word", x.fill(1, 255), 2);
        due("the least word", x.word(1, 0), 0);
        due("the greatest word", x.word(1, 1), 255);
        refusedFor("word", Checks::busy, (y, word) -> y.fill(0, word), BAD_VALUE, -1, 256, MIN, MAX);
        due("a damaged word stays within", x.damage(1, 0, 255), 255);
        due("a damaged word stays within", x.damage(1, 1, 255), 0);
        refusedFor("page", Checks::busy, (y, page) -> y.wear(0, page), NO_SUCH, -1, 8, MIN, MAX);
        due("the first page", x.wear(1, 0), 1);
        due("the last page", x.wear(1, 7), 1);
    }

    private static void pageOfWord() {
        for (int length = 2; length <= 32; length++) {
            TrialBoots x = new TrialBoots();
            for (int word = 0; word < 32; word++) {
                x.damage(0, word, 1);
            }
            x.begin(0, 0, length, 0);
            int lastPage = (length - 1) / 4;
            for (int word = 0; word < 32; word++) {
                due("length " + length + ", word " + word, x.word(0, word), word / 4 <= lastPage ? 255 : 254);
            }
            for (int page = 0; page < 8; page++) {
                due("length " + length + ", page " + page, x.wear(0, page), page <= lastPage ? 1 : 0);
            }
        }
    }

    private static void lengths() {
        for (int length : new int[] {2, 3, 4, 5, 31, 32}) {
            TrialBoots x = new TrialBoots();
            due("begin with " + length, x.begin(0, 0, length, 0), 1);
            for (int i = 1; i <= length; i++) {
                due("word " + i + " of " + length, x.fill(0, 0), i);
            }
            due("word beyond " + length, x.fill(0, 0), NOT_POSSIBLE);
            int sum = sumOf(new int[length]);
            due("sum", x.slot(0, SUM), sum);
            if (length < 32) {
                x.damage(0, length, 1);
                due("the word behind " + length + " does not count", x.slot(0, SUM), sum);
            }
            x.damage(0, length - 1, 1);
            due("the last of " + length + " counts", x.slot(0, SUM), (sum + 1) % 251);
        }
        refusedFor("length", Checks::busy, (x, length) -> x.begin(0, 9, length, 0), BAD_VALUE, 1, 33, 0, -1, MIN, MAX);
    }

    private static void sums() {
        String[] texts = {"00", "01", "f6", "f7", "f8", "f9", "ff", "f700", "f702", "f703", "f704", "f7ff", "f800", "0100", "0001"};
        int[] dues = {3, 4, 249, 250, 0, 1, 7, 248, 250, 0, 1, 1, 0, 12, 10};
        for (int i = 0; i < texts.length; i++) {
            due("sum of the text " + texts[i], withPad(texts[i]).padSum(), dues[i]);
        }
        int[] lastWords = {0, 2, 3, 4, 255};
        int[] sums = {248, 250, 0, 1, 1};
        for (int i = 0; i < sums.length; i++) {
            TrialBoots x = new TrialBoots();
            beginAndFill(x, 0, 0, sums[i], 247, lastWords[i]);
            due("sum of the image 247, " + lastWords[i], x.slot(0, SUM), sums[i]);
            due("it is the told one", x.finish(0), 1);
        }
        // 3 to the power of 32 is 147 over a multiple of 251.
        TrialBoots y = new TrialBoots();
        beginAndFill(y, 1, 0, 147, new int[32]);
        due("sum of 32 words 0", y.slot(1, SUM), 147);
        due("it is the told one", y.finish(1), 1);
        due("the golden copy's", y.count(GOLDEN_SUM), 9);
    }

    private static void hangsInTick() {
        for (int tick : new int[] {1, 2, 128, 254, 255}) {
            TrialBoots x = trialOf(99, tick, 0);
            if (tick > 1) {
                x.pass(tick - 1);
            }
            due("ahead of tick " + tick, x.count(HUNG), 0);
            x.start(false);
            if (tick > 1) {
                x.pass(tick - 1);
            }
            due("its ticks begin with its start", x.count(HUNG), 0);
            x.pass(1);
            due("in tick " + tick, x.count(HUNG), 1);
            x.pass(1);
            due("behind tick " + tick, x.count(HUNG), 2);
        }
        TrialBoots never = trialOf(99, 0, 1);
        for (int i = 0; i < 4; i++) {
            due("0: never", never.pass(500), 0);
        }
        due("0: never", never.count(HUNG), 0);
        due("0: never", never.nextStart(), NONE);
    }

    private static void confirmsInTick() {
        for (int tick : new int[] {1, 2, 128, 254, 255}) {
            TrialBoots x = trialOf(99, 0, tick);
            if (tick > 1) {
                x.pass(tick - 1);
            }
            due("ahead of tick " + tick, x.slot(0, STATE), TRIAL);
            due("ahead of tick " + tick, x.count(LEAST), 0);
            x.pass(1);
            due("in tick " + tick, x.slot(0, STATE), CONFIRMED);
            due("in tick " + tick, x.count(LEAST), 1);
        }
        TrialBoots never = trialOf(99, 0, 0);
        never.pass(500);
        never.pass(489);
        due("0: never", never.slot(0, STATE), TRIAL);
        due("0: never", never.ifPassed(500, 2), TRIAL);
    }

    private static void hangsOrConfirms() {
        for (int tick : new int[] {2, 7, 254}) {
            TrialBoots ahead = trialOf(99, tick - 1, tick);
            TrialBoots both = trialOf(99, tick, tick);
            TrialBoots behind = trialOf(99, tick + 1, tick);
            ahead.pass(tick);
            both.pass(tick);
            behind.pass(tick);
            due("hung ahead of tick " + tick, ahead.slot(0, STATE), TRIAL);
            due("hangs in tick " + tick, both.slot(0, STATE), TRIAL);
            due("hangs behind tick " + tick, behind.slot(0, STATE), CONFIRMED);
            due("hung ahead: the least version", ahead.count(LEAST), 0);
            due("hangs: the least version", both.count(LEAST), 0);
            due("hangs behind: the least version", behind.count(LEAST), 1);
            behind.pass(1);
            due("a confirmed one hangs, too", behind.count(HUNG), 1);
        }
        TrialBoots first = trialOf(99, 1, 1);
        first.pass(1);
        due("both in the first tick", first.slot(0, STATE), TRIAL);
    }

    private static void goldenImage() {
        TrialBoots x = new TrialBoots();
        for (int word = 0; word < 32; word++) {
            due("word " + word, x.word(2, word), word < 2 ? 0 : 255);
        }
        due("its sum", x.count(GOLDEN_SUM), 9);
        x.repair(1);
        due("the version of its copy", x.slot(1, VERSION), 0);
        due("the length of its copy", x.slot(1, LENGTH), 2);
        TrialBoots y = new TrialBoots();
        for (int i = 0; i < 4; i++) {
            due("it never hangs", y.pass(500), 0);
        }
        due("it never hangs", y.count(HUNG), 0);
        due("it confirms nothing", y.count(LEAST), 0);
        due("it is not on trial", y.nextStart(), NONE);
    }

    private static void goldenStays() {
        refused("begin", Checks::busy, x -> x.begin(2, 9, 2, 0), NO_SUCH);
        refused("fill", Checks::busy, x -> x.fill(2, 0), NO_SUCH);
        refused("fillAll", Checks::busy, x -> x.fillAll(2), NO_SUCH);
        refused("finish", Checks::busy, x -> x.finish(2), NO_SUCH);
        refused("damage", Checks::busy, x -> x.damage(2, 0, 1), NO_SUCH);
        refused("repair", Checks::busy, x -> x.repair(2), NO_SUCH);
        TrialBoots x = busy();
        x.repair(0);
        x.damage(0, 0, 255);
        due("the copy is not the golden one", x.word(2, 0), 0);
        due("the golden sum", x.count(GOLDEN_SUM), 9);
    }

    // ---- slots

    private static void slots() {
        edge("A slot is empty (0; both are at first), being filled (1), on trial (2), confirmed (3) or bad (4).",
            TermEdgeTests::states);
        edge("It has a version (0 to 99), a length, a told sum, tries that are left, and so many words that were filled in (all 0 at "
            + "first).", TermEdgeTests::versions);
        edge("Each page of a slot has a wear, how often it was emptied (0 at first); one whose wear is ENDURANCE or more is worn out.",
            TermEdgeTests::wearOfPages);
        edge("All words are 255 at first, and again when their page is emptied.", TermEdgeTests::emptiedWords);
        edge("There is a least version, at first 0.", TermEdgeTests::leastAtFirst);
    }

    private static void states() {
        due("EMPTY", TrialBoots.EMPTY, 0);
        due("FILLING", TrialBoots.FILLING, 1);
        due("TRIAL", TrialBoots.TRIAL, 2);
        due("CONFIRMED", TrialBoots.CONFIRMED, 3);
        due("BAD", TrialBoots.BAD, 4);
        for (int slot = 0; slot < 2; slot++) {
            for (int state = EMPTY; state <= BAD; state++) {
                TrialBoots x = goldenWith(slot, state);
                due("slot " + slot, x.slot(slot, STATE), state);
                due("the other slot", x.slot(1 - slot, STATE), EMPTY);
            }
        }
    }

    private static void versions() {
        TrialBoots x = new TrialBoots();
        for (int slot = 0; slot < 2; slot++) {
            for (int what = VERSION; what <= FILLED; what++) {
                due("slot " + slot + ", " + what + " at first", x.slot(slot, what), 0);
            }
            due("the least version", x.begin(slot, 0, 2, 0), 1);
            due("the least version", x.slot(slot, VERSION), 0);
            due("the greatest version", x.begin(slot, 99, 2, 0), 2);
            due("the greatest version", x.slot(slot, VERSION), 99);
        }
        refusedFor("version", Checks::busy, (y, version) -> y.begin(0, version, 2, 0), BAD_VALUE, -1, 100, MIN, MAX);
    }

    private static void wearOfPages() {
        TrialBoots x = new TrialBoots();
        for (int page = 0; page < 8; page++) {
            due("at first", x.wear(1, page), 0);
        }
        x.set(ENDURANCE, 3);
        x.begin(1, 0, 8, 0);
        x.begin(1, 0, 8, 0);
        due("a wear of 2, ENDURANCE 3", x.slot(1, WORN), 0);
        x.begin(1, 0, 4, 0);
        due("a wear of 3, ENDURANCE 3", x.slot(1, WORN), 1);
        x.set(ENDURANCE, 2);
        due("wears of 3 and 2, ENDURANCE 2", x.slot(1, WORN), 2);
        due("more than worn out: begin", x.begin(1, 0, 2, 0), NOT_POSSIBLE);
        due("more than worn out: repair", x.repair(1), NOT_POSSIBLE);
        due("more than worn out: lasts", x.lasts(1, 2), 0);
        x.set(ENDURANCE, 1);
        due("wears of 3, 2 and 0, ENDURANCE 1", x.slot(1, WORN), 2);
        x.set(ENDURANCE, 4);
        due("wears of 3 and 2, ENDURANCE 4", x.slot(1, WORN), 0);
        due("no more worn out", x.begin(1, 0, 2, 0), 4);
        due("the other slot", x.slot(0, WORN), 0);
    }

    private static void emptiedWords() {
        TrialBoots x = new TrialBoots();
        for (int word = 0; word < 32; word++) {
            due("at first, slot 0", x.word(0, word), 255);
            due("at first, slot 1", x.word(1, word), 255);
        }
        TrialBoots y = new TrialBoots();
        for (int word = 0; word < 32; word++) {
            y.damage(0, word, word + 1);
        }
        y.begin(0, 0, 8, 0);
        for (int word = 0; word < 32; word++) {
            due("behind begin, word " + word, y.word(0, word), word < 8 ? 255 : 255 ^ word + 1);
        }
        y.damage(0, 2, 1);
        y.damage(0, 3, 1);
        y.damage(0, 4, 1);
        y.repair(0);
        int[] words = {0, 0, 255, 255, 254, 255};
        for (int word = 0; word < words.length; word++) {
            due("behind repair, word " + word, y.word(0, word), words[word]);
        }
    }

    private static void leastAtFirst() {
        TrialBoots x = new TrialBoots();
        due("at first", x.count(LEAST), 0);
        due("a version of 0 is not below it", x.begin(0, 0, 2, 0), 1);
        due("repair is possible", x.repair(0), 2);
    }

    // ---- starting

    private static void starting() {
        edge("of the slots that are on trial and have tries left the one with the greatest version, of both the slot 0",
            TermEdgeTests::choiceOnTrial);
        edge("of the slots that are on trial and have tries left", TermEdgeTests::choiceWithTries);
        edge("if there is none, of the confirmed ones likewise", TermEdgeTests::choiceOfConfirmed);
        edge("if there is none, of the confirmed ones likewise", TermEdgeTests::trialAheadOfConfirmed);
        edge("if there is none, the golden copy", TermEdgeTests::choiceOfGolden);
        edge("If the sum of the chosen slot's image is not the told one, the slot becomes bad, and it is chosen anew.",
            TermEdgeTests::chosenAnew);
        edge("If the sum of the chosen slot's image is not the told one, the slot becomes bad, and it is chosen anew.",
            TermEdgeTests::soundOrNot);
        edge("If the chosen slot is on trial, it has one try less from then on.", TermEdgeTests::oneTryLess);
        edge("Then the area runs, its ticks are 0, and it does not hang.", TermEdgeTests::runsAnew);
        edge("A start has a cause: 0 by hand, 1 by the watchdog, 2 by the power.", TermEdgeTests::causes);
        edge("At first the golden copy runs, and no start was counted.", TermEdgeTests::noStartAtFirst);
        edge("A slot that is on trial and has no tries left becomes bad at the next start, ahead of the choice, if it is not confirmed "
            + "by then.", TermEdgeTests::triesUsedUp);
    }

    private static void choiceOnTrial() {
        int[][] versions = {{0, 0}, {5, 5}, {99, 99}, {5, 6}, {6, 5}, {0, 1}, {1, 0}, {98, 99}, {99, 98}, {0, 99}, {99, 0}};
        for (int[] both : versions) {
            int want = both[1] > both[0] ? 1 : 0;
            TrialBoots x = new TrialBoots();
            onTrial(x, 0, both[0], 0, 0);
            onTrial(x, 1, both[1], 0, 0);
            due("of the versions " + both[0] + " and " + both[1], x.start(false), want);
            TrialBoots y = new TrialBoots();
            onTrial(y, 1, both[1], 0, 0);
            onTrial(y, 0, both[0], 0, 0);
            due("made the other way round: of " + both[0] + " and " + both[1], y.start(true), want);
        }
        for (int slot = 0; slot < 2; slot++) {
            due("the only one", goldenWith(slot, TRIAL).start(false), slot);
        }
    }

    private static void choiceWithTries() {
        for (int slot = 0; slot < 2; slot++) {
            TrialBoots x = new TrialBoots();
            x.set(TRIES, 1);
            onTrial(x, slot, 9, 0, 0);
            x.set(TRIES, 9);
            onTrial(x, 1 - slot, 8, 0, 0);
            due("one try is left", x.start(false), slot);
            due("none is left, though its version is greater", x.start(false), 1 - slot);
            due("the one without tries is bad", x.slot(slot, STATE), BAD);
        }
    }

    private static void choiceOfConfirmed() {
        int[][] versions = {{0, 0}, {5, 5}, {99, 99}, {5, 6}, {6, 5}, {0, 1}, {1, 0}, {98, 99}, {99, 98}, {0, 99}, {99, 0}};
        for (int[] both : versions) {
            TrialBoots x = bothConfirmed(both[0], both[1]);
            due("of the versions " + both[0] + " and " + both[1], x.start(false), both[1] > both[0] ? 1 : 0);
        }
        for (int slot = 0; slot < 2; slot++) {
            due("the only one", goldenWith(slot, CONFIRMED).start(false), slot);
        }
    }

    private static void trialAheadOfConfirmed() {
        for (int slot = 0; slot < 2; slot++) {
            int other = 1 - slot;
            TrialBoots same = new TrialBoots();
            confirmed(same, slot, 7);
            onTrial(same, other, 7, 0, 0);
            due("the same version on trial", same.start(false), other);
            TrialBoots less = new TrialBoots();
            less.begin(other, 0, 2, sumOf(0, 0));
            confirmed(less, slot, 99);
            less.fill(other, 0);
            less.fill(other, 0);
            less.finish(other);
            due("a lower version on trial", less.start(false), other);
        }
    }

    private static void choiceOfGolden() {
        for (int state : new int[] {EMPTY, FILLING, BAD}) {
            for (int slot = 0; slot < 2; slot++) {
                TrialBoots x = goldenWith(slot, state);
                due("state " + state + " in the slot " + slot, x.start(false), GOLDEN);
                due("it stays so", x.slot(slot, STATE), state);
                beginAndFill(x, 1 - slot, 9, sumOf(0, 0), 0, 0);
                due("the other one is being filled, though it has all words", x.start(false), GOLDEN);
                due("it stays so", x.slot(1 - slot, STATE), FILLING);
            }
        }
    }

    private static void chosenAnew() {
        for (int slot = 0; slot < 2; slot++) {
            int other = 1 - slot;
            TrialBoots x = new TrialBoots();
            onTrial(x, slot, 9, 0, 0);
            onTrial(x, other, 8, 0, 0);
            x.damage(slot, 1, 1);
            due("the other one on trial", x.start(false), other);
            due("the slot is bad", x.slot(slot, STATE), BAD);
            due("the other one is not", x.slot(other, STATE), TRIAL);
            x.damage(other, 1, 1);
            due("then golden", x.start(false), GOLDEN);
            due("both are bad", x.slot(0, STATE) + x.slot(1, STATE), 2 * BAD);

            TrialBoots both = new TrialBoots();
            onTrial(both, slot, 9, 0, 0);
            onTrial(both, other, 8, 0, 0);
            both.damage(0, 1, 1);
            both.damage(1, 1, 1);
            due("both in one start: golden", both.start(false), GOLDEN);
            due("both are bad", both.slot(0, STATE) + both.slot(1, STATE), 2 * BAD);
            due("one start", both.count(STARTS), 1);

            TrialBoots y = new TrialBoots();
            confirmed(y, other, 3);
            onTrial(y, slot, 3, 0, 0);
            y.damage(slot, 0, 1);
            due("one on trial, then the confirmed one", y.start(false), other);
            onTrial(y, slot, 3, 0, 0);
            y.damage(slot, 0, 1);
            y.damage(other, 0, 1);
            due("one on trial, the confirmed one, then golden", y.start(false), GOLDEN);
            due("both are bad", y.slot(0, STATE) + y.slot(1, STATE), 2 * BAD);

            TrialBoots z = bothConfirmed(slot == 0 ? 9 : 8, slot == 1 ? 9 : 8);
            z.damage(slot, 0, 1);
            due("the other confirmed one", z.start(false), other);
            due("the slot is bad", z.slot(slot, STATE), BAD);
            z.damage(other, 0, 1);
            due("then golden", z.start(false), GOLDEN);
        }
    }

    private static void soundOrNot() {
        TrialBoots x = new TrialBoots();
        onTrial(x, 0, 9, 0, 0);
        onTrial(x, 1, 8, 0, 0);
        x.damage(1, 0, 1);
        due("the slot 0 is sound", x.start(false), 0);
        due("a slot that is not chosen does not become bad", x.slot(1, STATE), TRIAL);

        TrialBoots y = new TrialBoots();
        onTrial(y, 0, 9, 0, 3);
        y.damage(0, 2, 1);
        due("a word behind the image does not matter", y.start(false), 0);
        y.damage(0, 0, 1);
        y.damage(0, 1, 3);
        due("other words of the same sum do not matter", y.start(false), 0);
        y.damage(0, 1, 1);
        y.damage(0, 1, 1);
        due("damage that is taken back does not matter", y.start(false), 0);

        TrialBoots z = goldenWith(1, CONFIRMED);
        z.damage(1, 1, 128);
        due("a confirmed one whose sum is another", z.start(true), GOLDEN);
        due("it is bad", z.slot(1, STATE), BAD);
        z.damage(1, 1, 128);
        due("a bad one stays so, though its sum is told again", z.start(true), GOLDEN);
        due("it is bad", z.slot(1, STATE), BAD);
    }

    private static void oneTryLess() {
        TrialBoots x = new TrialBoots();
        onTrial(x, 0, 9, 0, 0);
        onTrial(x, 1, 8, 0, 1);
        x.start(false);
        due("the chosen one", x.slot(0, LEFT), 2);
        due("the other one", x.slot(1, LEFT), 3);
        x.damage(0, 0, 1);
        x.start(false);
        due("one that becomes bad has no try less", x.slot(0, LEFT), 2);
        due("the one that is chosen anew has one less", x.slot(1, LEFT), 2);
        x.pass(1);
        due("confirmed", x.slot(1, STATE), CONFIRMED);
        due("no try less by that", x.slot(1, LEFT), 2);
        x.start(false);
        due("a confirmed one has no try less", x.slot(1, LEFT), 2);
        TrialBoots y = trialOf(1, 2, 0);
        y.pass(2);
        due("by the watchdog, too", y.slot(0, LEFT), 1);
        y.start(true);
        due("by the power, too", y.slot(0, LEFT), 0);
    }

    private static void runsAnew() {
        for (int how = 0; how < 3; how++) {
            TrialBoots x = trialOf(9, 3, 0);
            x.pass(10);
            due("its ticks", x.count(TICKS), 10);
            due("it hangs", x.count(HUNG), 8);
            if (how == 2) {
                due("by the watchdog", x.pass(1), 1);
            } else {
                due("by hand or the power", x.start(how == 1), 0);
            }
            due("the area", x.count(RUNS), 0);
            due("its ticks", x.count(TICKS), 0);
            due("it does not hang", x.count(HUNG), 0);
            due("all ticks stay", x.count(ALL_TICKS), how == 2 ? 11 : 10);
            x.pass(2);
            due("nor in the next ticks", x.count(HUNG), 0);
        }
    }

    private static void causes() {
        TrialBoots x = trialOf(1, 2, 0);
        due("by hand", x.past(0, CAUSE), 0);
        x.pass(2);
        due("by the watchdog, it hung", x.past(0, CAUSE), 1);
        x.start(true);
        due("by the power", x.past(0, CAUSE), 2);
        due("one by the watchdog", x.count(WATCHDOG), 1);
        TrialBoots y = trialOf(1, 0, 0);
        y.pass(10);
        due("by the watchdog, too long on trial", y.past(0, CAUSE), 1);
    }

    private static void noStartAtFirst() {
        TrialBoots x = new TrialBoots();
        due("runs", x.count(RUNS), GOLDEN);
        due("starts", x.count(STARTS), 0);
        due("starts by the watchdog", x.count(WATCHDOG), 0);
        due("no such start", x.past(0, AREA), NO_SUCH);
        x.pass(500);
        due("ticks bring none", x.count(STARTS), 0);
    }

    private static void triesUsedUp() {
        TrialBoots x = new TrialBoots();
        x.set(TRIES, 1);
        onTrial(x, 0, 9, 0, 5);
        onTrial(x, 1, 8, 0, 0);
        x.start(false);
        due("its last try", x.slot(0, LEFT), 0);
        x.pass(4);
        due("not bad until the next start", x.slot(0, STATE), TRIAL);
        due("it would be bad", x.ifStarted(false), 11);
        x.start(true);
        due("bad at the next start", x.slot(0, STATE), BAD);
        due("the other one is chosen", x.count(RUNS), 1);
        x.start(true);
        due("then it is bad, too", x.slot(1, STATE), BAD);
        due("golden", x.count(RUNS), GOLDEN);

        TrialBoots y = new TrialBoots();
        y.set(TRIES, 1);
        onTrial(y, 0, 9, 0, 5);
        y.start(false);
        y.pass(5);
        due("confirmed by then", y.start(false), 0);
        due("not bad", y.slot(0, STATE), CONFIRMED);

        TrialBoots z = trialOf(1, 1, 0);
        due("by the watchdog, too: two more tries, then golden", z.pass(500), 3);
        due("bad", z.slot(0, STATE), BAD);
        due("golden", z.count(RUNS), GOLDEN);
    }

    // ---- ticks

    private static void ticks() {
        edge("In a tick the ticks of the area that runs become 1 more.", TermEdgeTests::oneTickMore);
        edge("Then it hangs, if its word 0 tells it (and from then on until the next start).", TermEdgeTests::hangsOn);
        edge("If it does not hang, and its word 1 tells it, it confirms itself: if it is a slot on trial, it becomes confirmed",
            TermEdgeTests::confirmsOnTrial);
        edge("and the least version becomes its version, if that is greater", TermEdgeTests::leastVersionRises);
        edge("if it hangs, and has hung for PATIENCE ticks or more (this one and those in a row ahead of it), there is a start by the "
            + "watchdog", TermEdgeTests::hungForPatience);
        edge("has hung for PATIENCE ticks or more", TermEdgeTests::hungForMore);
        edge("If it is a slot on trial that is not confirmed, and its ticks are 10 times PATIENCE or more, there is a start by the "
            + "watchdog, too.", TermEdgeTests::trialForTenPatiences);
        edge("its ticks are 10 times PATIENCE or more", TermEdgeTests::trialForMore);
        edge("If it is a slot on trial that is not confirmed", TermEdgeTests::confirmedInTheLastTick);
        edge("there is a start by the watchdog, too", TermEdgeTests::bothInOneTick);
        edge("(Words that are damaged while it runs matter at once.)", TermEdgeTests::damagedWhileItRuns);
    }

    private static void oneTickMore() {
        TrialBoots x = new TrialBoots();
        x.pass(1);
        due("golden's ticks", x.count(TICKS), 1);
        x.pass(500);
        due("golden's ticks", x.count(TICKS), 501);
        x.start(false);
        x.pass(1);
        due("behind a start", x.count(TICKS), 1);
        due("in all", x.count(ALL_TICKS), 502);
        TrialBoots y = trialOf(1, 3, 0);
        y.pass(4);
        due("behind a start in the ticks", y.count(TICKS), 1);
        due("in all", y.count(ALL_TICKS), 4);
    }

    private static void hangsOn() {
        TrialBoots x = trialOf(99, 3, 5);
        x.pass(2);
        due("not yet", x.count(HUNG), 0);
        x.pass(1);
        x.damage(0, 0, 3);
        x.pass(1);
        due("though its word 0 is 0 by now", x.count(HUNG), 2);
        x.pass(1);
        due("it does not confirm itself", x.slot(0, STATE), TRIAL);
        x.damage(0, 0, 3);
        x.start(false);
        due("until the next start", x.count(HUNG), 0);
        x.pass(2);
        due("until the next start", x.count(HUNG), 0);
    }

    private static void confirmsOnTrial() {
        TrialBoots x = trialOf(10, 0, 2);
        x.pass(2);
        due("on trial", x.slot(0, STATE), CONFIRMED);
        TrialBoots golden = goldenWith(0, TRIAL);
        golden.pass(500);
        due("one that does not run does not confirm itself", golden.slot(0, STATE), TRIAL);
        TrialBoots other = new TrialBoots();
        onTrial(other, 0, 9, 0, 2);
        onTrial(other, 1, 8, 0, 2);
        other.start(false);
        other.pass(2);
        due("the other one does not confirm itself", other.slot(1, STATE), TRIAL);
        TrialBoots again = bothConfirmed(4, 9);
        again.start(false);
        again.pass(1);
        due("a confirmed one stays so", again.slot(1, STATE), CONFIRMED);
        due("and the least version, too", again.count(LEAST), 9);
    }

    private static void leastVersionRises() {
        int[] versions = {0, 1, 5, 6, 7, 99};
        for (int version : versions) {
            TrialBoots x = new TrialBoots();
            x.begin(1, version, 2, sumOf(0, 1));
            confirmed(x, 0, 6);
            due("the first one", x.count(LEAST), 6);
            x.fill(1, 0);
            x.fill(1, 1);
            x.finish(1);
            due("the second one runs", x.start(false), 1);
            due("not by its start", x.count(LEAST), 6);
            x.pass(1);
            due("version " + version + " behind 6", x.count(LEAST), Math.max(6, version));
            due("it is confirmed", x.slot(1, STATE), CONFIRMED);
        }
    }

    private static void hungForPatience() {
        for (int patience : new int[] {1, 2, 10, 99}) {
            for (int hangs : new int[] {1, 2, 9}) {
                TrialBoots x = trialOf(patience, hangs, 0);
                due("in how many ticks", x.nextStart(), hangs + patience - 1);
                if (hangs + patience > 2) {
                    due("one tick less", x.pass(hangs + patience - 2), 0);
                }
                due("it has hung", x.count(HUNG), patience - 1);
                due("in this tick", x.pass(1), 1);
                due("by the watchdog", x.past(0, CAUSE), BY_WATCHDOG);
            }
            TrialBoots y = trialOf(patience, 2, 1);
            due("a confirmed one, too", y.nextStart(), 1 + patience);
            due("not in one tick less", y.pass(patience), 0);
            due("confirmed", y.slot(0, STATE), CONFIRMED);
            due("in this tick", y.pass(1), 1);
            due("it runs again", y.count(RUNS), 0);
        }
    }

    private static void hungForMore() {
        int[] lowered = {1, 20, 40, 41, 42, 43};
        int[] next = {1, 1, 1, 1, 2, 3};
        for (int i = 0; i < lowered.length; i++) {
            TrialBoots x = trialOf(99, 1, 0);
            x.pass(40);
            due("it has hung", x.count(HUNG), 40);
            x.set(PATIENCE, lowered[i]);
            due("a PATIENCE of " + lowered[i] + ": by itself it brings no start", x.count(WATCHDOG), 0);
            due("a PATIENCE of " + lowered[i], x.nextStart(), next[i]);
            if (next[i] > 1) {
                due("one tick less", x.pass(next[i] - 1), 0);
            }
            due("the tick", x.pass(1), 1);
        }
    }

    private static void trialForTenPatiences() {
        for (int patience : new int[] {1, 2, 10, 50}) {
            TrialBoots x = trialOf(patience, 0, 0);
            due("in how many ticks", x.nextStart(), 10 * patience);
            due("one tick less", x.pass(10 * patience - 1), 0);
            due("its ticks", x.count(TICKS), 10 * patience - 1);
            due("in this tick", x.pass(1), 1);
            due("by the watchdog", x.past(0, CAUSE), BY_WATCHDOG);
            due("when", x.past(0, WHEN), 10 * patience);
        }
        TrialBoots most = trialOf(99, 0, 0);
        due("989 ticks", most.pass(500) + most.pass(489), 0);
        due("990 ticks", most.pass(1), 1);
        TrialBoots golden = new TrialBoots();
        golden.set(PATIENCE, 1);
        due("the golden copy is no slot on trial", golden.pass(500), 0);
        TrialBoots other = trialOf(1, 0, 1);
        other.pass(1);
        due("a confirmed one is not on trial", other.pass(500), 0);
    }

    private static void trialForMore() {
        int[] lowered = {1, 5, 6, 7};
        int[] next = {1, 1, 10, 20};
        for (int i = 0; i < lowered.length; i++) {
            TrialBoots x = trialOf(99, 0, 0);
            x.pass(50);
            x.set(PATIENCE, lowered[i]);
            due("a PATIENCE of " + lowered[i] + ": by itself it brings no start", x.count(WATCHDOG), 0);
            due("a PATIENCE of " + lowered[i], x.nextStart(), next[i]);
            if (next[i] > 1) {
                due("one tick less", x.pass(next[i] - 1), 0);
            }
            due("the tick", x.pass(1), 1);
        }
    }

    private static void confirmedInTheLastTick() {
        for (int patience : new int[] {1, 2, 25}) {
            TrialBoots last = trialOf(patience, 0, 10 * patience);
            due("confirmed in the tick 10 times PATIENCE", last.pass(10 * patience), 0);
            due("confirmed", last.slot(0, STATE), CONFIRMED);
            due("no more starts", last.pass(500), 0);
            TrialBoots late = trialOf(patience, 0, 10 * patience + 1);
            due("one tick too late", late.pass(10 * patience), 1);
            due("on trial", late.slot(0, STATE), TRIAL);
            due("one try less", late.slot(0, LEFT), 1);
        }
        TrialBoots hangs = trialOf(2, 20, 20);
        due("hangs in the tick in which it would confirm itself", hangs.pass(20), 1);
        due("on trial", hangs.slot(0, STATE), TRIAL);
    }

    private static void bothInOneTick() {
        TrialBoots x = trialOf(5, 46, 0);
        due("both in tick 50", x.pass(50), 1);
        due("one start", x.count(WATCHDOG), 1);
        due("one try less", x.slot(0, LEFT), 1);
        due("its ticks", x.count(TICKS), 0);
        TrialBoots y = trialOf(5, 49, 0);
        due("ahead of tick 50", y.pass(49), 0);
        due("it hangs", y.count(HUNG), 1);
        due("the trial ends ahead of the patience with the hanging", y.pass(1), 1);
        TrialBoots z = trialOf(5, 45, 0);
        due("the hanging ends ahead of the trial", z.pass(49), 1);
        due("one start", z.ifPassed(1, 0), 0);
    }

    private static void damagedWhileItRuns() {
        TrialBoots x = trialOf(50, 0, 0);
        x.pass(6);
        x.damage(0, 0, 6);
        x.pass(1);
        due("a tick that has passed tells nothing", x.count(HUNG), 0);
        x.damage(0, 0, 6 ^ 8);
        due("the damage alone brings no tick", x.count(HUNG), 0);
        x.pass(1);
        due("the next tick", x.count(HUNG), 1);

        TrialBoots y = trialOf(50, 9, 7);
        y.pass(6);
        y.damage(0, 1, 7 ^ 6);
        y.pass(1);
        due("a tick that has passed tells nothing", y.slot(0, STATE), TRIAL);
        y.damage(0, 1, 6 ^ 8);
        y.pass(1);
        due("the next tick", y.slot(0, STATE), CONFIRMED);
        y.damage(0, 0, 9);
        due("never hangs any more", y.pass(500), 0);
        due("never hangs any more", y.count(HUNG), 0);
    }

    // ---- texts

    private static void texts() {
        edge("The pad is a text of at most 64 characters", TermEdgeTests::sixtyFour);
        edge("text = word { word }", TermEdgeTests::oneToThirtyTwoWords);
        edge("a word is two digits of base 16, \"0\" to \"9\" and \"a\" to \"f\"", TermEdgeTests::digits);
        edge("The fault is the index of the first character that cannot stand at its place when the text is read from left to right",
            TermEdgeTests::firstFault);
        edge("if there is none and the text ends too early (also if it is empty), it is the length of the text",
            TermEdgeTests::endsTooEarly);
    }

    private static void sixtyFour() {
        TrialBoots x = withPad("0".repeat(63));
        due("63", x.count(PAD), 63);
        due("64", x.put('1'), 64);
        refused("65", () -> withPad("0".repeat(64)), y -> y.put('1'), TOO_MANY);
        for (int length = 57; length <= 64; length++) {
            int before = length;
            due("to 64", withPad("0".repeat(64 - (length - 56))).put(packed("0".repeat(length - 56))), 64);
            refused("8 characters on " + before, () -> withPad("0".repeat(before)), y -> y.put(packed("00000000")), TOO_MANY);
        }
        due("8 characters on 56", withPad("0".repeat(56)).put(packed("00000000")), 64);
        TrialBoots all = withPad("0".repeat(62) + "ff");
        due("all 64 are read", all.padSum(), (147 + 255) % 251);
    }

    private static void oneToThirtyTwoWords() {
        due("no word", withPad("").padSum(), BAD_TEXT);
        due("one word", withPad("00").padSum(), 3);
        due("two words", withPad("0000").padSum(), 9);
        due("32 words", withPad("00".repeat(32)).padSum(), 147);
        due("31 words and a half", withPad("00".repeat(31) + "0").padSum(), BAD_TEXT);
    }

    private static void digits() {
        String digits = "0123456789abcdef";
        for (int code = 33; code <= 126; code++) {
            int value = digits.indexOf(code);
            TrialBoots first = new TrialBoots();
            first.put((long) code << 8 | '0');
            due("code " + code + " as the first digit", first.padSum(), value >= 0 ? (3 + 16 * value) % 251 : BAD_TEXT);
            due("code " + code + " as the first digit", first.fault(), value >= 0 ? NONE : 0);
            TrialBoots second = new TrialBoots();
            second.put((long) '0' << 8 | code);
            due("code " + code + " as the second digit", second.padSum(), value >= 0 ? 3 + value : BAD_TEXT);
            due("code " + code + " as the second digit", second.fault(), value >= 0 ? NONE : 1);
        }
    }

    private static void firstFault() {
        due("the first character", withPad("g0").fault(), 0);
        due("the second one", withPad("0g").fault(), 1);
        due("the first of two", withPad("0g00g0").fault(), 1);
        due("one in the middle", withPad("00112G33").fault(), 5);
        due("the last one of 64", withPad("0".repeat(63) + "g").fault(), 63);
        due("the first one of 64", withPad("g" + "0".repeat(63)).fault(), 0);
        due("ahead of a text that ends too early", withPad("0g0").fault(), 1);
        due("in the last place of a text that ends too early", withPad("00g").fault(), 2);
    }

    private static void endsTooEarly() {
        due("empty", withPad("").fault(), 0);
        due("one digit", withPad("0").fault(), 1);
        due("two digits", withPad("00").fault(), NONE);
        due("three digits", withPad("000").fault(), 3);
        due("63 digits", withPad("0".repeat(63)).fault(), 63);
        due("64 digits", withPad("0".repeat(64)).fault(), NONE);
        TrialBoots wiped = withPad("00");
        wiped.wipe();
        due("empty again", wiped.fault(), 0);
    }
}
