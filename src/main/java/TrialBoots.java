/**
 * A small device that starts one of two images, or a golden copy if neither is sound.
 * What it promises stands in ../shared/DOC.md, and the part of Java it keeps to in ../shared/LANGUAGE.md.
 */
public final class TrialBoots {
    public static final int NO_SUCH = -1, BAD_VALUE = -2, BAD_TEXT = -3, TOO_MANY = -4, NOT_POSSIBLE = -5, NONE = -6;
    public static final int TRIES = 0, PATIENCE = 1, ENDURANCE = 2;
    public static final int EMPTY = 0, FILLING = 1, TRIAL = 2, CONFIRMED = 3, BAD = 4;

    private static final int SLOTS = 2, GOLDEN = 2, AREAS = 3;
    private static final int WORDS = 32, PAGE_WORDS = 4, PAGES = 8;
    private static final int MOST_IN_WORD = 255, EMPTIED = 255;
    private static final int LEAST_LENGTH = 2, MOST_VERSION = 99, SUM_BASE = 251;
    private static final int BY_HAND = 0, BY_WATCHDOG = 1, BY_POWER = 2;
    private static final int SETTINGS = 3;
    private static final int[] MOST_SETTING = {9, 99, 60};
    private static final int TRIAL_PATIENCES = 10;
    private static final int MOST_TICKS = 500, MOST_TICKS_AHEAD = 2000;
    private static final int KEPT_STARTS = 12, KEPT_CHANGES = 6, PLACES = 2, PAD_SIZE = 64;

    private final Device device = new Device();
    // Made once and used again by every "what if", so that a call makes no objects.
    private final Device whatIf = new Device();
    private final Device[] saved = {new Device(), new Device()};
    private final boolean[] isSaved = new boolean[PLACES];
    private final History history = new History();
    private final Pad pad = new Pad();

    public TrialBoots() {
    }

    // ---- slots

    public int set(int setting, int value) {
        if (!isWithin(setting, 0, SETTINGS - 1) || !isWithin(value, 1, MOST_SETTING[setting])) {
            return BAD_VALUE;
        }
        history.record(device);
        int previous = device.settings[setting];
        device.settings[setting] = value;
        return previous;
    }

    public int begin(int slot, int version, int length, int sum) {
        if (!isSlot(slot)) {
            return NO_SUCH;
        }
        if (!isWithin(version, 0, MOST_VERSION) || !isLength(length) || !isWithin(sum, 0, SUM_BASE - 1)) {
            return BAD_VALUE;
        }
        int pages = pagesOf(length);
        if (device.running == slot || version < device.leastVersion || device.beginsLeft(slot, pages) == 0) {
            return NOT_POSSIBLE;
        }
        history.record(device);
        Area area = device.areaAt(slot);
        area.emptyPages(pages);
        area.expectImage(version, length, sum);
        return area.greatestWear(pages);
    }

    public int fill(int slot, int word) {
        if (!isSlot(slot)) {
            return NO_SUCH;
        }
        if (!isWithin(word, 0, MOST_IN_WORD)) {
            return BAD_VALUE;
        }
        Area area = device.areaAt(slot);
        if (area.state != FILLING || area.lacking() == 0) {
            return NOT_POSSIBLE;
        }
        history.record(device);
        area.addWord(word);
        return area.filled;
    }

    public int fillAll(int slot) {
        if (!isSlot(slot)) {
            return NO_SUCH;
        }
        if (pad.firstFault() != NONE) {
            return BAD_TEXT;
        }
        Area area = device.areaAt(slot);
        if (area.state != FILLING) {
            return NOT_POSSIBLE;
        }
        int words = pad.words();
        if (words > area.lacking()) {
            return TOO_MANY;
        }
        history.record(device);
        for (int i = 0; i < words; i++) {
            area.addWord(pad.wordAt(i));
        }
        pad.clear();
        return area.filled;
    }

    public int finish(int slot) {
        if (!isSlot(slot)) {
            return NO_SUCH;
        }
        Area area = device.areaAt(slot);
        if (area.state != FILLING || area.lacking() > 0) {
            return NOT_POSSIBLE;
        }
        history.record(device);
        if (!area.isSound()) {
            area.state = BAD;
            return 0;
        }
        area.state = TRIAL;
        area.tries = device.settings[TRIES];
        return 1;
    }

    public int damage(int slot, int word, int bits) {
        if (!isSlot(slot) || !isWithin(word, 0, WORDS - 1)) {
            return NO_SUCH;
        }
        if (!isWithin(bits, 1, MOST_IN_WORD)) {
            return BAD_VALUE;
        }
        history.record(device);
        Area area = device.areaAt(slot);
        area.words[word] ^= bits;
        return area.words[word];
    }

    public int repair(int slot) {
        if (!isSlot(slot)) {
            return NO_SUCH;
        }
        if (device.running != GOLDEN || device.beginsLeft(slot, 1) == 0 || device.leastVersion > 0) {
            return NOT_POSSIBLE;
        }
        history.record(device);
        Area area = device.areaAt(slot);
        area.emptyPages(1);
        area.takeGoldenImage();
        return area.greatestWear(1);
    }

    // ---- starts, ticks

    public int start(boolean isPower) {
        history.record(device);
        device.startBy(isPower ? BY_POWER : BY_HAND);
        return device.running;
    }

    public int pass(int ticks) {
        if (!isWithin(ticks, 1, MOST_TICKS)) {
            return BAD_VALUE;
        }
        history.record(device);
        return device.letPass(ticks);
    }

    // ---- what there is; nothing changes

    public int slot(int slot, int what) {
        if (!isSlot(slot)) {
            return NO_SUCH;
        }
        Area area = device.areaAt(slot);
        switch (what) {
            case 0: return area.state;
            case 1: return area.version;
            case 2: return area.length;
            case 3: return area.toldSum;
            case 4: return area.tries;
            case 5: return area.filled;
            case 6: return area.length == 0 ? NONE : area.sumOfImage();
            case 7: return area.greatestWear(PAGES);
            case 8: return area.wornOutPages(device.settings[ENDURANCE]);
            default: return BAD_VALUE;
        }
    }

    public int word(int area, int word) {
        if (!isWithin(area, 0, AREAS - 1) || !isWithin(word, 0, WORDS - 1)) {
            return NO_SUCH;
        }
        return device.areaAt(area).words[word];
    }

    public int wear(int slot, int page) {
        if (!isSlot(slot) || !isWithin(page, 0, PAGES - 1)) {
            return NO_SUCH;
        }
        return device.areaAt(slot).wears[page];
    }

    public int past(int back, int what) {
        if (!isWithin(back, 0, device.starts.kept - 1)) {
            return NO_SUCH;
        }
        int at = device.starts.indexOf(back);
        switch (what) {
            case 0: return device.starts.areas[at];
            case 1: return device.starts.causes[at];
            case 2: return device.starts.ticks[at];
            default: return BAD_VALUE;
        }
    }

    public int count(int what) {
        switch (what) {
            case 0: return device.running;
            case 1: return device.ticks;
            case 2: return device.hungTicks;
            case 3: return device.leastVersion;
            case 4: return device.starts.all;
            case 5: return device.starts.byWatchdog;
            case 6: return device.allTicks;
            case 7: return device.areaAt(GOLDEN).sumOfImage();
            case 8: return device.settings[TRIES];
            case 9: return device.settings[PATIENCE];
            case 10: return device.settings[ENDURANCE];
            case 11: return pad.length;
            case 12: return history.size;
            default: return BAD_VALUE;
        }
    }

    public int padSum() {
        return pad.firstFault() == NONE ? pad.sumOfWords() : BAD_TEXT;
    }

    // ---- what if; nothing changes

    public int ifStarted(boolean isPower) {
        whatIf.copyFrom(device);
        whatIf.startBy(isPower ? BY_POWER : BY_HAND);
        return whatIf.running + 10 * (whatIf.badSlots() - device.badSlots());
    }

    public int ifPassed(int ticks, int what) {
        if (!isWithin(ticks, 1, MOST_TICKS) || !isWithin(what, 0, 3)) {
            return BAD_VALUE;
        }
        whatIf.copyFrom(device);
        int starts = whatIf.letPass(ticks);
        switch (what) {
            case 0: return starts;
            case 1: return whatIf.running;
            case 2: return whatIf.areaAt(0).state;
            default: return whatIf.areaAt(1).state;
        }
    }

    public int nextStart() {
        whatIf.copyFrom(device);
        for (int ticks = 1; ticks <= MOST_TICKS_AHEAD; ticks++) {
            if (whatIf.needsStartInTick()) {
                return ticks;
            }
        }
        return NONE;
    }

    public int lasts(int slot, int length) {
        if (!isSlot(slot)) {
            return NO_SUCH;
        }
        return isLength(length) ? device.beginsLeft(slot, pagesOf(length)) : BAD_VALUE;
    }

    // ---- texts

    public int put(long characters) {
        int added = Pad.charactersIn(characters);
        if (added == 0) {
            return BAD_VALUE;
        }
        if (added > PAD_SIZE - pad.length) {
            return TOO_MANY;
        }
        pad.append(characters, added);
        return pad.length;
    }

    public int wipe() {
        int length = pad.length;
        pad.clear();
        return length;
    }

    public int fault() {
        return pad.firstFault();
    }

    // ---- undo, saving

    public int undo() {
        if (history.size == 0) {
            return NOT_POSSIBLE;
        }
        history.takeBack(device);
        return history.size;
    }

    public int save(int place) {
        if (!isWithin(place, 0, PLACES - 1)) {
            return BAD_VALUE;
        }
        saved[place].copyFrom(device);
        isSaved[place] = true;
        return device.running;
    }

    public int restore(int place) {
        if (!isWithin(place, 0, PLACES - 1)) {
            return BAD_VALUE;
        }
        if (!isSaved[place]) {
            return NOT_POSSIBLE;
        }
        history.record(device);
        device.copyFrom(saved[place]);
        return device.running;
    }

    private static boolean isWithin(int value, int least, int most) {
        return value >= least && value <= most;
    }

    private static boolean isSlot(int slot) {
        return isWithin(slot, 0, SLOTS - 1);
    }

    private static boolean isLength(int length) {
        return isWithin(length, LEAST_LENGTH, WORDS);
    }

    private static int pagesOf(int length) {
        return (length + PAGE_WORDS - 1) / PAGE_WORDS;
    }

    private static int sumWith(int sum, int word) {
        return (3 * sum + word) % SUM_BASE;
    }

    /** A slot, or the golden copy. */
    private static final class Area {
        int state = EMPTY, version, length, toldSum, tries, filled;
        final int[] words = new int[WORDS];
        final int[] wears = new int[PAGES];

        Area() {
            for (int i = 0; i < WORDS; i++) {
                words[i] = EMPTIED;
            }
        }

        void copyFrom(Area other) {
            state = other.state;
            version = other.version;
            length = other.length;
            toldSum = other.toldSum;
            tries = other.tries;
            filled = other.filled;
            System.arraycopy(other.words, 0, words, 0, WORDS);
            System.arraycopy(other.wears, 0, wears, 0, PAGES);
        }

        /** Empties the first so many pages. */
        void emptyPages(int pages) {
            for (int i = 0; i < pages && i < PAGES; i++) {
                wears[i]++;
            }
            for (int i = 0; i < pages * PAGE_WORDS && i < WORDS; i++) {
                words[i] = EMPTIED;
            }
        }

        void expectImage(int newVersion, int newLength, int newSum) {
            state = FILLING;
            version = newVersion;
            length = newLength;
            toldSum = newSum;
            tries = 0;
            filled = 0;
        }

        void takeGoldenImage() {
            expectImage(0, LEAST_LENGTH, 0);
            addWord(0);
            addWord(0);
            toldSum = sumOfImage();
            state = CONFIRMED;
        }

        int lacking() {
            return length - filled;
        }

        void addWord(int word) {
            if (isWithin(filled, 0, WORDS - 1)) {
                words[filled] = word;
                filled++;
            }
        }

        int sumOfImage() {
            int sum = 1;
            for (int i = 0; i < length && i < WORDS; i++) {
                sum = sumWith(sum, words[i]);
            }
            return sum;
        }

        boolean isSound() {
            return sumOfImage() == toldSum;
        }

        /** The greatest wear of the first so many pages. */
        int greatestWear(int pages) {
            int greatest = 0;
            for (int i = 0; i < pages && i < PAGES; i++) {
                greatest = Math.max(greatest, wears[i]);
            }
            return greatest;
        }

        int wornOutPages(int endurance) {
            int worn = 0;
            for (int i = 0; i < PAGES; i++) {
                if (wears[i] >= endurance) {
                    worn++;
                }
            }
            return worn;
        }

        void loseFilling() {
            if (state == FILLING) {
                state = EMPTY;
            }
        }

        void giveUpTrial() {
            if (state == TRIAL && tries == 0) {
                state = BAD;
            }
        }

        void useTry() {
            if (state == TRIAL) {
                tries--;
            }
        }
    }

    /** How many starts there were, and the latest ones, which go round in the three rows. */
    private static final class Starts {
        int all, byWatchdog, kept;
        final int[] areas = new int[KEPT_STARTS];
        final int[] causes = new int[KEPT_STARTS];
        final int[] ticks = new int[KEPT_STARTS];

        void copyFrom(Starts other) {
            all = other.all;
            byWatchdog = other.byWatchdog;
            kept = other.kept;
            System.arraycopy(other.areas, 0, areas, 0, KEPT_STARTS);
            System.arraycopy(other.causes, 0, causes, 0, KEPT_STARTS);
            System.arraycopy(other.ticks, 0, ticks, 0, KEPT_STARTS);
        }

        void add(int area, int cause, int allTicks) {
            all++;
            kept = Math.min(kept + 1, KEPT_STARTS);
            int latest = indexOf(0);
            areas[latest] = area;
            causes[latest] = cause;
            ticks[latest] = allTicks;
            if (cause == BY_WATCHDOG) {
                byWatchdog++;
            }
        }

        int indexOf(int back) {
            return Math.floorMod(all - 1 - back, KEPT_STARTS);
        }
    }

    /** All that an undo or a restored state brings back. */
    private static final class Device {
        final int[] settings = {3, 10, 20};
        final Area first = new Area();
        final Area second = new Area();
        final Area golden = new Area();
        final Starts starts = new Starts();
        int running = GOLDEN, ticks, hungTicks, leastVersion, allTicks;

        Device() {
            golden.takeGoldenImage();
        }

        /** The golden copy is the same in every device, so it is not copied. */
        void copyFrom(Device other) {
            System.arraycopy(other.settings, 0, settings, 0, SETTINGS);
            first.copyFrom(other.first);
            second.copyFrom(other.second);
            starts.copyFrom(other.starts);
            running = other.running;
            ticks = other.ticks;
            hungTicks = other.hungTicks;
            leastVersion = other.leastVersion;
            allTicks = other.allTicks;
        }

        Area areaAt(int area) {
            if (area == 0) {
                return first;
            }
            return area == 1 ? second : golden;
        }

        int badSlots() {
            return (first.state == BAD ? 1 : 0) + (second.state == BAD ? 1 : 0);
        }

        /** How often the first so many pages of a slot can be emptied until one is worn out. */
        int beginsLeft(int slot, int pages) {
            return Math.max(0, settings[ENDURANCE] - areaAt(slot).greatestWear(pages));
        }

        void startBy(int cause) {
            if (cause == BY_POWER) {
                first.loseFilling();
                second.loseFilling();
            }
            first.giveUpTrial();
            second.giveUpTrial();
            running = soundArea();
            areaAt(running).useTry();
            ticks = 0;
            hungTicks = 0;
            starts.add(running, cause, allTicks);
        }

        /** Each round without a sound area makes a slot bad, so that behind them only the golden copy is left. */
        int soundArea() {
            for (int round = 0; round < SLOTS; round++) {
                int area = bestArea();
                if (areaAt(area).isSound()) {
                    return area;
                }
                areaAt(area).state = BAD;
            }
            return GOLDEN;
        }

        /** Slots on trial without tries are bad by now, so all that are on trial have some left. */
        int bestArea() {
            int onTrial = newestThatIs(TRIAL);
            return onTrial != GOLDEN ? onTrial : newestThatIs(CONFIRMED);
        }

        int newestThatIs(int state) {
            if (second.state == state && (first.state != state || second.version > first.version)) {
                return 1;
            }
            return first.state == state ? 0 : GOLDEN;
        }

        int letPass(int count) {
            int started = 0;
            for (int i = 0; i < count; i++) {
                if (needsStartInTick()) {
                    startBy(BY_WATCHDOG);
                    started++;
                }
            }
            return started;
        }

        /** Lets one tick pass, and tells whether the watchdog has to start in it, which is left to the caller. */
        boolean needsStartInTick() {
            Area area = areaAt(running);
            ticks++;
            allTicks++;
            if (hungTicks > 0 || area.words[0] == ticks) {
                hungTicks++;
            }
            if (hungTicks == 0 && area.words[1] == ticks && area.state == TRIAL) {
                area.state = CONFIRMED;
                leastVersion = Math.max(leastVersion, area.version);
            }
            boolean hungTooLong = hungTicks >= settings[PATIENCE];
            boolean onTrialTooLong = area.state == TRIAL && ticks >= TRIAL_PATIENCES * settings[PATIENCE];
            return hungTooLong || onTrialTooLong;
        }
    }

    /** The states ahead of the latest changes, which go round in the row. */
    private static final class History {
        int size, recorded;
        final Device[] states = new Device[KEPT_CHANGES];

        History() {
            for (int i = 0; i < KEPT_CHANGES; i++) {
                states[i] = new Device();
            }
        }

        void record(Device device) {
            states[Math.floorMod(recorded, KEPT_CHANGES)].copyFrom(device);
            recorded++;
            size = Math.min(size + 1, KEPT_CHANGES);
        }

        void takeBack(Device device) {
            recorded--;
            device.copyFrom(states[Math.floorMod(recorded, KEPT_CHANGES)]);
            size--;
        }
    }

    /** The text that is not yet filled in. */
    private static final class Pad {
        private static final int MOST_AT_ONCE = 8, LEAST_CODE = 33, MOST_CODE = 126;
        int length;
        final int[] codes = new int[PAD_SIZE];

        /** How many characters a number gives; 0 if it does not give them rightly. */
        static int charactersIn(long characters) {
            long rest = characters;
            int found = 0;
            while (found < MOST_AT_ONCE && isWithin((int) (rest & 255), LEAST_CODE, MOST_CODE)) {
                rest >>>= 8;
                found++;
            }
            return rest == 0 ? found : 0;
        }

        void append(long characters, int added) {
            for (int i = added - 1; i >= 0 && length < PAD_SIZE; i--) {
                codes[length] = (int) (characters >>> (8 * i) & 255);
                length++;
            }
        }

        void clear() {
            length = 0;
        }

        int firstFault() {
            for (int i = 0; i < length && i < PAD_SIZE; i++) {
                if (digitAt(i) < 0) {
                    return i;
                }
            }
            return length == 0 || length % 2 == 1 ? length : NONE;
        }

        int words() {
            return length / 2;
        }

        int wordAt(int word) {
            return 16 * digitAt(2 * word) + digitAt(2 * word + 1);
        }

        int sumOfWords() {
            int sum = 1;
            for (int i = 0; i < words(); i++) {
                sum = sumWith(sum, wordAt(i));
            }
            return sum;
        }

        /** The digit's value, or -1 if there is no digit at this place. */
        private int digitAt(int place) {
            int code = isWithin(place, 0, PAD_SIZE - 1) ? codes[place] : 0;
            if (isWithin(code, '0', '9')) {
                return code - '0';
            }
            return isWithin(code, 'a', 'f') ? code - 'a' + 10 : -1;
        }
    }
}
