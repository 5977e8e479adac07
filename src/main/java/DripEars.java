/** Hearers under the drip of a row of houses, and what they come to know; the document is ../shared/DOC.md. */
public final class DripEars {
    public static final int UNKNOWN = -1, OUTSIDE = -2, STATE = -3, FULL = -4, NONE = -9;

    private static final int MOST_LETTERS = 64;
    private static final int MOST_HOUSES = 5;
    private static final int MOST_SAYINGS = 8;
    private static final int MOST_RAINS = 4;
    private static final int MOST_ACTS = 14;
    private static final int MOST_HEARD = 6;
    private static final int MOST_HOURS = 30;
    private static final int MOST_KEEPS_HOURS = 12;
    private static final int MOST_DRIES_HOURS = 6;
    private static final int MOST_DOINGS = 4;
    private static final int MOST_YEARS = 30;
    private static final int MOST_LOWERINGS = 3;
    private static final int REST_HOURS = 4;
    private static final int SLOTS = 2;
    private static final int THINGS = 6;
    private static final int ALL_THINGS = 63;
    private static final int KINDS = 4;
    private static final int MARRIED = 3;
    private static final int FIGURES = 10;
    private static final int LOWEST_VOICE = -3;
    private static final int HIGHEST_VOICE = 3;
    private static final int STRAY_DRY = 3;
    private static final int MOST_DRY = 9;
    /** Divided by each number of hearers from 1 to 5 without anything left. */
    private static final int SHARE_UNIT = 60;
    private static final long SEED_FACTOR = 6364136223846793005L;
    private static final long SEED_STEP = 1442695040888963407L;
    /** By kind: plain, keen, dull, married. */
    private static final int[] EAR = {0, 2, -2, 0};

    private final int[] text = new int[MOST_LETTERS];
    private int letters;
    private final Lane told;
    private final Reader reader;
    private final Scene now;
    private final Scene trial;
    private final Acts acts;
    private final Heard heardSayings;
    private final Scene[] kept = new Scene[SLOTS];
    private final boolean[] isKept = new boolean[SLOTS];
    private long seedNow;
    private final int[] doings = new int[3 * MOST_DOINGS];
    private final int[] lowerings = new int[MOST_HOUSES];
    private final int[] oneHas = new int[4];
    private final int[] otherHas = new int[4];

    public DripEars() {
        told = new Lane();
        reader = new Reader();
        now = new Scene(told);
        trial = new Scene(told);
        acts = new Acts(told);
        heardSayings = new Heard();
        for (int slot = 0; slot < SLOTS; slot++) {
            kept[slot] = new Scene(told);
        }
    }

    // ---- the lane

    public int write(int letter) {
        if (letter < 0 || letter > 255) {
            return OUTSIDE;
        }
        if (letters >= MOST_LETTERS) {
            return FULL;
        }
        text[letters] = letter;
        letters++;
        return letters;
    }

    public int wipe() {
        int before = letters;
        letters = 0;
        return before;
    }

    public int fault() {
        return reader.firstFault(text, letters);
    }

    public int lane() {
        if (reader.firstFault(text, letters) != NONE) {
            return STATE;
        }
        told.take(reader.draft);
        now.begin();
        acts.forget();
        for (int slot = 0; slot < SLOTS; slot++) {
            isKept[slot] = false;
        }
        return 100 * told.houses + 10 * told.sayings + told.rains;
    }

    public int house(int house, int what) {
        if (!told.hasHouse(house)) {
            return UNKNOWN;
        }
        switch (what) {
            case 0:
                return told.wall[house];
            case 1:
                return now.voice[house];
            case 2:
                return now.kindAt(house);
            case 3:
                return now.knows[house];
            case 4:
                return now.hearer[house];
            case 5:
                return (now.housesThatHear() >> house) & 1;
            default:
                return OUTSIDE;
        }
    }

    public int saying(int saying, int what) {
        if (!told.hasSaying(saying)) {
            return UNKNOWN;
        }
        switch (what) {
            case 0:
                return told.place[saying];
            case 1:
                return told.thing[saying];
            case 2:
                return told.loud[saying];
            default:
                return OUTSIDE;
        }
    }

    // ---- acts

    public int hour() {
        acts.note(now);
        return now.passHour();
    }

    public int lower(int house) {
        if (!told.hasHouse(house)) {
            return UNKNOWN;
        }
        if (!now.canBeLowered(house)) {
            return STATE;
        }
        acts.note(now);
        now.tryLowered(house);
        return now.voice[house];
    }

    public int raise(int house) {
        if (!told.hasHouse(house)) {
            return UNKNOWN;
        }
        if (!now.canBeRaised(house)) {
            return STATE;
        }
        acts.note(now);
        now.tryRaised(house);
        return now.voice[house];
    }

    public int change(int one, int other) {
        if (!told.hasHouse(one) || !told.hasHouse(other)) {
            return UNKNOWN;
        }
        if (one == other) {
            return OUTSIDE;
        }
        acts.note(now);
        now.tryChanged(one, other);
        return now.knows[one];
    }

    public int plate(int house) {
        if (!told.hasHouse(house)) {
            return UNKNOWN;
        }
        if (!told.hasNext(house)) {
            return STATE;
        }
        acts.note(now);
        now.tryPlate(house);
        return now.knows[house + 1];
    }

    public int undo() {
        if (acts.size == 0) {
            return STATE;
        }
        acts.takeBack(now);
        return acts.size;
    }

    // ---- hours to come

    public int later(int house, int n) {
        if (!told.hasHouse(house)) {
            return UNKNOWN;
        }
        if (n < 0 || n > MOST_HOURS) {
            return OUTSIDE;
        }
        trial.take(now);
        trial.passHours(n);
        return trial.knows[house];
    }

    public int first(int house, int thing) {
        if (!told.hasHouse(house) || !isThing(thing)) {
            return UNKNOWN;
        }
        trial.take(now);
        for (int n = 0; n <= MOST_HOURS; n++) {
            if (trial.knowsThing(house, thing)) {
                return n;
            }
            trial.passHour();
        }
        return NONE;
    }

    public int keeps(int house, int thing, int n, int what) {
        if (!told.hasHouse(house) || !isThing(thing)) {
            return UNKNOWN;
        }
        if (n < 1 || n > MOST_KEEPS_HOURS || !isZeroOrOne(what)) {
            return OUTSIDE;
        }
        if (!fillFewestLowerings(house, thing, n)) {
            return NONE;
        }
        return what == 0 ? sumOfLowerings() : figuresOfLowerings();
    }

    public int tells(int things, int what) {
        if (things < 0 || things > ALL_THINGS || !isZeroOrOne(what)) {
            return OUTSIDE;
        }
        int best = NONE;
        for (int group = 0; group <= told.allHouses(); group++) {
            boolean fewer = best == NONE || Integer.bitCount(group) < Integer.bitCount(best);
            if (fewer && (things & ~now.knownBy(group)) == 0) {
                best = group;
            }
        }
        if (best == NONE) {
            return NONE;
        }
        return what == 0 ? Integer.bitCount(best) : best;
    }

    public int judge(int n, long row) {
        if (n < 1 || n > MOST_DOINGS || row < 0 || !fillDoings(n, row)) {
            return OUTSIDE;
        }
        trial.take(now);
        for (int place = 0; place < n; place++) {
            int at = 3 * place;
            if (!comesAbout(doings[at], doings[at + 1], doings[at + 2])) {
                return place;
            }
        }
        return NONE;
    }

    // ---- heard

    public int hear(int loud, int rain, int heard) {
        if (!isFigure(loud) || !isFigure(rain) || !isZeroOrOne(heard)) {
            return OUTSIDE;
        }
        if (heardSayings.size >= MOST_HEARD) {
            return FULL;
        }
        heardSayings.add(loud, rain, heard == 1);
        return heardSayings.size;
    }

    public int unhear() {
        int before = heardSayings.size;
        heardSayings.size = 0;
        return before;
    }

    public int ears(int what) {
        if (!isZeroOrOne(what)) {
            return OUTSIDE;
        }
        int fitting = 0;
        int foremost = NONE;
        for (int kind = 0; kind < MARRIED; kind++) {
            for (int wall = 0; wall < FIGURES; wall++) {
                if (heardSayings.fits(kind, wall)) {
                    foremost = fitting == 0 ? 10 * kind + wall : foremost;
                    fitting++;
                }
            }
        }
        return what == 0 ? fitting : foremost;
    }

    // ---- shares, rests, chances

    public int share(int house, boolean upper) {
        if (!told.hasHouse(house)) {
            return UNKNOWN;
        }
        int above = 0;
        for (int thing = 0; thing < THINGS; thing++) {
            if (now.knowsThing(house, thing)) {
                // Of those who know it only the first to come adds it, and each is as likely the first.
                int knowers = now.knowersOf(thing);
                above += knowers > 0 ? SHARE_UNIT / knowers : 0;
            }
        }
        return fraction(above, SHARE_UNIT, upper);
    }

    public int rests(int one, int other, int what) {
        if (!told.hasHouse(one) || !told.hasHouse(other)) {
            return UNKNOWN;
        }
        if (one == other || !isZeroOrOne(what)) {
            return OUTSIDE;
        }
        fillChoices(one, other);
        int resting = 0;
        int foremost = NONE;
        for (int pair = 0; pair < 4; pair++) {
            // Bit 1 of a pair is what the one chose, bit 0 what the other did.
            if (oneHas[pair] >= oneHas[pair ^ 2] && otherHas[pair] >= otherHas[pair ^ 1]) {
                foremost = resting == 0 ? 10 * (pair >> 1) + (pair & 1) : foremost;
                resting++;
            }
        }
        return what == 0 ? resting : foremost;
    }

    public int dries(int house, int thing, int n, int x, boolean upper) {
        if (!told.hasHouse(house) || !isThing(thing)) {
            return UNKNOWN;
        }
        if (n < 1 || n > MOST_DRIES_HOURS || x < 0 || x > 10) {
            return OUTSIDE;
        }
        int above = 0;
        for (int dryHours = 0; dryHours < 1 << n; dryHours++) {
            int weight = weightOf(dryHours, n, x);
            if (weight > 0 && knowsBehind(dryHours, n, house, thing)) {
                above += weight;
            }
        }
        return fraction(above, tenToThe(n), upper);
    }

    public long seed(long v) {
        long before = seedNow;
        seedNow = v;
        return before;
    }

    public int years(int m) {
        if (m < 1 || m > MOST_YEARS) {
            return OUTSIDE;
        }
        trial.take(now);
        int together = 0;
        for (int time = 0; time < m; time++) {
            seedNow = seedNow * SEED_FACTOR + SEED_STEP;
            doByLot((int) ((seedNow >>> 33) & 31));
            together += trial.allKnown();
        }
        return together;
    }

    // ---- slots

    public int keep(int slot) {
        if (slot < 0 || slot >= SLOTS) {
            return UNKNOWN;
        }
        kept[slot].take(now);
        isKept[slot] = true;
        return now.hour;
    }

    public int again(int slot) {
        if (slot < 0 || slot >= SLOTS) {
            return UNKNOWN;
        }
        if (!isKept[slot]) {
            return STATE;
        }
        now.take(kept[slot]);
        acts.forget();
        return now.hour;
    }

    public int count(int what) {
        switch (what) {
            case 0:
                return letters;
            case 1:
                return told.houses;
            case 2:
                return told.sayings;
            case 3:
                return told.rains;
            case 4:
                return now.hour;
            case 5:
                return told.rainAt(now.hour);
            case 6:
                return now.dry;
            case 7:
                return now.areStrayed() ? 1 : 0;
            case 8:
                return now.knownBy(told.allHouses());
            case 9:
                return now.housesThatHear();
            case 10:
                return acts.size;
            case 11:
                return heardSayings.size;
            default:
                return OUTSIDE;
        }
    }

    // ---- helps

    private static boolean isThing(int thing) {
        return thing >= 0 && thing < THINGS;
    }

    private static boolean isFigure(int figure) {
        return figure >= 0 && figure < FIGURES;
    }

    private static boolean isZeroOrOne(int number) {
        return number == 0 || number == 1;
    }

    private static int fraction(int above, int below, boolean upper) {
        int divisor = greatestDivisor(above, below);
        if (divisor == 0) {
            return upper ? above : below;
        }
        return upper ? above / divisor : below / divisor;
    }

    private static int greatestDivisor(int one, int other) {
        int larger = one;
        int smaller = other;
        // Two steps at least halve the larger number, so 64 are enough for any two.
        for (int step = 0; step < 64 && smaller != 0; step++) {
            int left = larger % smaller;
            larger = smaller;
            smaller = left;
        }
        return larger;
    }

    private static int tenToThe(int n) {
        int power = 1;
        for (int i = 0; i < n; i++) {
            power *= 10;
        }
        return power;
    }

    private int sumOfLowerings() {
        int sum = 0;
        for (int house = 0; house < told.houses; house++) {
            sum += lowerings[house];
        }
        return sum;
    }

    private int figuresOfLowerings() {
        int figures = 0;
        for (int house = 0; house < told.houses; house++) {
            figures = 10 * figures + lowerings[house];
        }
        return figures;
    }

    /**
     * Whether a saying is heard hangs on the voice of its own house alone, and a lower voice is never heard by more.
     * So what the lowest voices do not keep is not kept at all, and each house has a least lowering of its own.
     */
    private boolean fillFewestLowerings(int house, int thing, int n) {
        for (int each = 0; each < told.houses; each++) {
            lowerings[each] = Math.min(MOST_LOWERINGS, now.voice[each] - LOWEST_VOICE);
        }
        if (!isKeptFrom(house, thing, n)) {
            return false;
        }
        for (int each = 0; each < told.houses; each++) {
            int most = lowerings[each];
            boolean isEnough = false;
            for (int times = 0; times <= most && !isEnough; times++) {
                lowerings[each] = times;
                isEnough = isKeptFrom(house, thing, n);
            }
        }
        return true;
    }

    private boolean isKeptFrom(int house, int thing, int n) {
        trial.take(now);
        for (int each = 0; each < told.houses; each++) {
            trial.voice[each] -= lowerings[each];
        }
        trial.passHours(n);
        return !trial.knowsThing(house, thing);
    }

    /** Answers false if the row has more than three figures a doing. */
    private boolean fillDoings(int n, long row) {
        long left = row;
        for (int place = 3 * n - 1; place >= 0; place--) {
            doings[place] = (int) (left % 10);
            left /= 10;
        }
        return left == 0;
    }

    private boolean comesAbout(int doing, int middle, int last) {
        switch (doing) {
            case 0:
                if (middle != 0 || last != 0) {
                    return false;
                }
                trial.passHour();
                return true;
            case 1:
                return middle == 0 && trial.tryLowered(last);
            case 2:
                return middle == 0 && trial.tryRaised(last);
            case 3:
                return trial.tryChanged(middle, last);
            case 4:
                return middle == 0 && trial.tryPlate(last);
            case 5:
                return told.hasHouse(middle) && isThing(last) && trial.knowsThing(middle, last);
            case 6:
                return middle == 0 && trial.dry >= last;
            default:
                return false;
        }
    }

    private void fillChoices(int one, int other) {
        for (int pair = 0; pair < 4; pair++) {
            int oneChose = pair >> 1;
            int otherChose = pair & 1;
            trial.take(now);
            if (oneChose == 1) {
                trial.tryLowered(one);
            }
            if (otherChose == 1) {
                trial.tryLowered(other);
            }
            trial.passHours(REST_HOURS);
            oneHas[pair] = THINGS - Integer.bitCount(trial.knows[one]) - oneChose;
            otherHas[pair] = THINGS - Integer.bitCount(trial.knows[other]) - otherChose;
        }
    }

    /** Of 10 to the n ways to draw, how many give just these dry hours (bits). */
    private static int weightOf(int dryHours, int n, int x) {
        int weight = 1;
        for (int i = 0; i < n; i++) {
            weight *= ((dryHours >> i) & 1) == 1 ? x : 10 - x;
        }
        return weight;
    }

    private boolean knowsBehind(int dryHours, int n, int house, int thing) {
        trial.take(now);
        for (int i = 0; i < n; i++) {
            boolean turnsDry = ((dryHours >> i) & 1) == 1;
            trial.passHourBy(turnsDry ? 0 : told.rainAt(trial.hour));
        }
        return trial.knowsThing(house, thing);
    }

    private void doByLot(int lot) {
        if (lot < 5) {
            trial.tryLowered(lot);
        } else if (lot < 10) {
            trial.tryRaised(lot - 5);
        } else if (lot < 14) {
            trial.tryChanged(lot - 10, lot - 9);
        } else if (lot < 18) {
            trial.tryPlate(lot - 14);
        } else {
            trial.passHour();
        }
    }

    /** What a text tells; it stays so until another text is made the lane. */
    private static final class Lane {
        int houses;
        int sayings;
        int rains;
        final int[] wall = new int[MOST_HOUSES];
        final int[] kind = new int[MOST_HOUSES];
        final int[] place = new int[MOST_SAYINGS];
        final int[] thing = new int[MOST_SAYINGS];
        final int[] loud = new int[MOST_SAYINGS];
        final int[] rain = new int[MOST_RAINS];

        void clear() {
            houses = 0;
            sayings = 0;
            rains = 0;
        }

        void take(Lane from) {
            houses = from.houses;
            sayings = from.sayings;
            rains = from.rains;
            System.arraycopy(from.wall, 0, wall, 0, MOST_HOUSES);
            System.arraycopy(from.kind, 0, kind, 0, MOST_HOUSES);
            System.arraycopy(from.place, 0, place, 0, MOST_SAYINGS);
            System.arraycopy(from.thing, 0, thing, 0, MOST_SAYINGS);
            System.arraycopy(from.loud, 0, loud, 0, MOST_SAYINGS);
            System.arraycopy(from.rain, 0, rain, 0, MOST_RAINS);
        }

        boolean hasHouse(int number) {
            return number >= 0 && number < houses;
        }

        boolean hasNext(int number) {
            return number >= 0 && number < houses - 1;
        }

        /** As bits. */
        int allHouses() {
            return (1 << houses) - 1;
        }

        boolean hasSaying(int number) {
            return number >= 0 && number < sayings;
        }

        /** floorMod, so that even an hour that has wrapped around is no wrong index. */
        int sayingAt(int hour) {
            return sayings > 0 ? Math.floorMod(hour, sayings) : NONE;
        }

        int rainAt(int hour) {
            return rains > 0 ? rain[Math.floorMod(hour, rains)] : 0;
        }

        void addHouse(int newKind, int newWall) {
            if (houses < MOST_HOUSES) {
                kind[houses] = newKind;
                wall[houses] = newWall;
                houses++;
            }
        }

        void addSaying(int newPlace, int newThing, int newLoud) {
            if (sayings < MOST_SAYINGS) {
                place[sayings] = newPlace;
                thing[sayings] = newThing;
                loud[sayings] = newLoud;
                sayings++;
            }
        }

        void addRain(int newRain) {
            if (rains < MOST_RAINS) {
                rain[rains] = newRain;
                rains++;
            }
        }
    }

    /** Reads a text letter by letter into a draft, so that a text with a fault leaves the lane as it is. */
    private static final class Reader {
        private static final int NO_PART = 0;
        private static final int HOUSE_FIGURES = 2;
        private static final int SAYING_FIGURES = 3;
        private static final int RAIN_FIGURES = 1;

        final Lane draft = new Lane();
        private final int[] figures = new int[SAYING_FIGURES];
        private boolean begun;
        private int part;
        private int figuresRead;

        /** The place of the first fault, or NONE. */
        int firstFault(int[] letters, int length) {
            draft.clear();
            begun = false;
            part = NO_PART;
            for (int place = 0; place < length && place < letters.length; place++) {
                if (!accepts(letters[place])) {
                    return place;
                }
            }
            return begun && part == NO_PART ? NONE : length;
        }

        private boolean accepts(int letter) {
            if (!begun) {
                begun = letter == 'E';
                return begun;
            }
            if (part == NO_PART) {
                return opensPart(letter);
            }
            int figure = letter - '0';
            if (figure < 0 || figure >= figureLimit() || figuresRead >= SAYING_FIGURES) {
                return false;
            }
            figures[figuresRead] = figure;
            figuresRead++;
            closePartIfWhole();
            return true;
        }

        private boolean opensPart(int letter) {
            boolean opens = letter == 'H' && draft.houses < MOST_HOUSES
                || letter == 'S' && draft.houses > 0 && draft.sayings < MOST_SAYINGS
                || letter == 'R' && draft.rains < MOST_RAINS;
            if (opens) {
                part = letter;
                figuresRead = 0;
            }
            return opens;
        }

        private int figureLimit() {
            if (part == 'H' && figuresRead == 0) {
                return KINDS;
            }
            if (part == 'S' && figuresRead == 0) {
                return draft.houses;
            }
            if (part == 'S' && figuresRead == 1) {
                return THINGS;
            }
            return FIGURES;
        }

        private void closePartIfWhole() {
            if (part == 'H' && figuresRead == HOUSE_FIGURES) {
                draft.addHouse(figures[0], figures[1]);
                part = NO_PART;
            } else if (part == 'S' && figuresRead == SAYING_FIGURES) {
                draft.addSaying(figures[0], figures[1], figures[2]);
                part = NO_PART;
            } else if (part == 'R' && figuresRead == RAIN_FIGURES) {
                draft.addRain(figures[0]);
                part = NO_PART;
            }
        }
    }

    /** What acts and hours change; rows go by the house at which a hearer is. */
    private static final class Scene {
        final Lane lane;
        /** At which house he was as told. */
        final int[] hearer = new int[MOST_HOUSES];
        final int[] knows = new int[MOST_HOUSES];
        final int[] voice = new int[MOST_HOUSES];
        int dry;
        int hour;

        Scene(Lane lane) {
            this.lane = lane;
        }

        void begin() {
            for (int house = 0; house < MOST_HOUSES; house++) {
                hearer[house] = house;
                knows[house] = 0;
                voice[house] = 0;
            }
            dry = 0;
            hour = 0;
        }

        void take(Scene from) {
            System.arraycopy(from.hearer, 0, hearer, 0, MOST_HOUSES);
            System.arraycopy(from.knows, 0, knows, 0, MOST_HOUSES);
            System.arraycopy(from.voice, 0, voice, 0, MOST_HOUSES);
            dry = from.dry;
            hour = from.hour;
        }

        int kindAt(int house) {
            return lane.kind[hearer[house]];
        }

        boolean knowsThing(int house, int thing) {
            return ((knows[house] >> thing) & 1) == 1;
        }

        /** What the hearers at some houses (bits) know together. */
        int knownBy(int houses) {
            int known = 0;
            for (int house = 0; house < lane.houses; house++) {
                if (((houses >> house) & 1) == 1) {
                    known |= knows[house];
                }
            }
            return known;
        }

        int knowersOf(int thing) {
            int knowers = 0;
            for (int house = 0; house < lane.houses; house++) {
                knowers += (knows[house] >> thing) & 1;
            }
            return knowers;
        }

        int allKnown() {
            int all = 0;
            for (int house = 0; house < lane.houses; house++) {
                all += Integer.bitCount(knows[house]);
            }
            return all;
        }

        /** Not held by itself: each hour sets it by dryness, which is kept and undone with all the rest. */
        boolean areStrayed() {
            return dry >= STRAY_DRY;
        }

        /** The houses (bits) at which the saying of the hour would be heard now. */
        int housesThatHear() {
            return housesThatHearBy(lane.rainAt(hour));
        }

        private int housesThatHearBy(int rain) {
            int saying = lane.sayingAt(hour);
            if (areStrayed() || !lane.hasSaying(saying)) {
                return 0;
            }
            int place = lane.place[saying];
            int sound = lane.loud[saying] + voice[place] - lane.wall[place] - rain;
            int houses = 0;
            for (int house = 0; house < lane.houses; house++) {
                int kind = lane.kind[hearer[house]];
                int away = Math.abs(house - place);
                boolean livesWithIt = kind == MARRIED && away == 0;
                if (livesWithIt || sound + EAR[kind] > 2 * away) {
                    houses |= 1 << house;
                }
            }
            return houses;
        }

        void passHours(int n) {
            for (int i = 0; i < n; i++) {
                passHourBy(lane.rainAt(hour));
            }
        }

        int passHour() {
            return passHourBy(lane.rainAt(hour));
        }

        /** Answers how many hearers know more by it. */
        int passHourBy(int rain) {
            int saying = lane.sayingAt(hour);
            int wiser = 0;
            if (lane.hasSaying(saying)) {
                wiser = tellAt(housesThatHearBy(rain), 1 << lane.thing[saying]);
            }
            dry = rain == 0 ? Math.min(dry + 1, MOST_DRY) : 0;
            if (areStrayed()) {
                int everywhere = lane.allHouses();
                wiser |= tellAt(everywhere, knownBy(everywhere));
            }
            hour++;
            return Integer.bitCount(wiser);
        }

        /** Tells things at some houses (bits); answers the houses (bits) where they were not all known. */
        private int tellAt(int houses, int things) {
            int wiser = 0;
            for (int house = 0; house < lane.houses; house++) {
                if (((houses >> house) & 1) == 1 && (things & ~knows[house]) != 0) {
                    knows[house] |= things;
                    wiser |= 1 << house;
                }
            }
            return wiser;
        }

        boolean canBeLowered(int house) {
            return lane.hasHouse(house) && voice[house] > LOWEST_VOICE;
        }

        boolean canBeRaised(int house) {
            return lane.hasHouse(house) && voice[house] < HIGHEST_VOICE;
        }

        boolean tryLowered(int house) {
            if (!canBeLowered(house)) {
                return false;
            }
            voice[house]--;
            return true;
        }

        boolean tryRaised(int house) {
            if (!canBeRaised(house)) {
                return false;
            }
            voice[house]++;
            return true;
        }

        boolean tryChanged(int one, int other) {
            if (!lane.hasHouse(one) || !lane.hasHouse(other) || one == other) {
                return false;
            }
            int hearerOfOne = hearer[one];
            hearer[one] = hearer[other];
            hearer[other] = hearerOfOne;
            int knowsOfOne = knows[one];
            knows[one] = knows[other];
            knows[other] = knowsOfOne;
            return true;
        }

        boolean tryPlate(int house) {
            if (!lane.hasNext(house)) {
                return false;
            }
            knows[house + 1] |= knows[house];
            return true;
        }
    }

    /** The row of acts, as the scenes ahead of them; the row goes round, so that the first one can be forgotten. */
    private static final class Acts {
        private final Scene[] ahead = new Scene[MOST_ACTS];
        private int oldest;
        int size;

        Acts(Lane lane) {
            for (int i = 0; i < MOST_ACTS; i++) {
                ahead[i] = new Scene(lane);
            }
        }

        void forget() {
            oldest = 0;
            size = 0;
        }

        void note(Scene scene) {
            ahead[(oldest + size) % MOST_ACTS].take(scene);
            if (size < MOST_ACTS) {
                size++;
            } else {
                oldest = (oldest + 1) % MOST_ACTS;
            }
        }

        void takeBack(Scene scene) {
            if (size > 0) {
                size--;
                scene.take(ahead[(oldest + size) % MOST_ACTS]);
            }
        }
    }

    /** What the unknown hearer heard and did not hear. */
    private static final class Heard {
        private final int[] loud = new int[MOST_HEARD];
        private final int[] rain = new int[MOST_HEARD];
        private final boolean[] was = new boolean[MOST_HEARD];
        int size;

        void add(int newLoud, int newRain, boolean newWas) {
            if (size < MOST_HEARD) {
                loud[size] = newLoud;
                rain[size] = newRain;
                was[size] = newWas;
                size++;
            }
        }

        boolean fits(int kind, int wall) {
            for (int i = 0; i < size; i++) {
                boolean hears = loud[i] + EAR[kind] > wall + rain[i];
                if (hears != was[i]) {
                    return false;
                }
            }
            return true;
        }
    }
}
