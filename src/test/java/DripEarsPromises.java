/** Each promise with answers worked out by hand: ordinary inputs, edges, wrong inputs. */
public final class DripEarsPromises {
    private static final int[] EXTREMES = {Integer.MIN_VALUE, -1000, 1000, Integer.MAX_VALUE};
    private static int wrong = 0;
    private static int promise = 0;

    private static void due(String call, long got, long want) {
        if (got != want) {
            wrong++;
            System.out.println("promise " + promise + ": " + call + " answered " + got + ", due is " + want);
        }
    }

    private static DripEars written(String text) {
        DripEars ears = new DripEars();
        rewrite(ears, text);
        return ears;
    }

    private static void rewrite(DripEars ears, String text) {
        ears.wipe();
        for (int i = 0; i < text.length(); i++) {
            ears.write(text.charAt(i));
        }
    }

    private static DripEars made(String text) {
        DripEars ears = written(text);
        due("fault of " + text, ears.fault(), DripEars.NONE);
        ears.lane();
        return ears;
    }

    private static void hours(DripEars ears, int n) {
        for (int i = 0; i < n; i++) {
            ears.hour();
        }
    }

    /** Two houses; plain at a wall of 3, keen at a wall of 9; dry and rainy hours in turn. */
    private static final String TWO = "EH03H19S005S148R0R2";

    /** Three houses that hear but their own sayings: things 0, 1, 2. */
    private static final String APART = "EH00H00H00S001S111S221R1R0";

    public static void main(String[] args) {
        newObject();
        write();
        wipe();
        fault();
        lane();
        house();
        houseHears();
        saying();
        hour();
        hourStrays();
        lower();
        raise();
        change();
        plate();
        undo();
        later();
        first();
        keeps();
        tells();
        judge();
        hear();
        unhear();
        ears();
        share();
        rests();
        dries();
        seed();
        years();
        keep();
        again();
        count();
        System.out.println(wrong == 0 ? "all promises are kept" : wrong + " answers are not as due");
        if (wrong != 0) {
            System.exit(1);
        }
    }

    private static void newObject() {
        promise = 1;
        DripEars ears = new DripEars();
        for (int what = 0; what <= 11; what++) {
            due("count " + what, ears.count(what), 0);
        }
        due("house", ears.house(0, 0), DripEars.UNKNOWN);
        due("seed", ears.seed(3), 0);
        due("years", ears.years(30), 0);
        due("fault", ears.fault(), 0);
        due("keep", ears.keep(1), 0);
        hours(ears, 3);
        due("dry", ears.count(6), 3);
        due("strayed", ears.count(7), 1);
    }

    private static void write() {
        promise = 2;
        DripEars ears = new DripEars();
        due("write 255", ears.write(255), 1);
        due("write 0", ears.write(0), 2);
        due("write 256", ears.write(256), DripEars.OUTSIDE);
        due("write -1", ears.write(-1), DripEars.OUTSIDE);
        for (int extreme : EXTREMES) {
            due("write " + extreme, ears.write(extreme), DripEars.OUTSIDE);
        }
        for (int length = 3; length <= 64; length++) {
            due("write", ears.write('E'), length);
        }
        due("a 65th letter", ears.write('E'), DripEars.FULL);
        due("a 65th letter outside", ears.write(256), DripEars.OUTSIDE);
        due("letters", ears.count(0), 64);
    }

    private static void wipe() {
        promise = 3;
        DripEars ears = made(TWO);
        due("wipe", ears.wipe(), TWO.length());
        due("wipe again", ears.wipe(), 0);
        due("letters", ears.count(0), 0);
        due("houses stay", ears.count(1), 2);
    }

    private static void fault() {
        promise = 4;
        String five = "EH00H00H00H00H00";
        String eight = "EH00S000S000S000S000S000S000S000S000";
        String[] texts = {"", "E", "EE", "e", "EH", "EH3", "EH39", "EH4", "EH:", "EH0/", "EH0:", "EH00S", "EH00S0",
            "EH00S05", "EH00S059", "EH00S1", "EH00S06", "EH00S00E", "ES", "ER", "ER9", "ERR", "ER0R1R2R3", "ER0R1R2R3R",
            five, five + "H", five + "S4", five + "S5", eight, eight + "S", eight + "R", "EH00 ", "EH00S100H00",
            five + "S000S000S000S000S000S000S000S000R0R0R0R0S"};
        int[] faults = {0, DripEars.NONE, 1, 0, 2, 3, DripEars.NONE, 2, 2, 3, 3, 5, 6,
            7, DripEars.NONE, 5, 6, 7, 1, 2, DripEars.NONE, 2, DripEars.NONE, 9,
            DripEars.NONE, 16, 18, 17, DripEars.NONE, 36, 37, 4, 5,
            56};
        for (int i = 0; i < texts.length; i++) {
            due("fault of '" + texts[i] + "'", written(texts[i]).fault(), faults[i]);
        }
        String filled = five + "S000S000S000S000S000S000S000S000R0R0R0R0";
        due("fault of the longest lane", written(filled).fault(), DripEars.NONE);
        due("fault of what a zero would end", written("EH00" + (char) 0).fault(), 4);
    }

    private static void lane() {
        promise = 5;
        DripEars ears = written(TWO);
        due("lane", ears.lane(), 222);
        due("the text stays", ears.count(0), TWO.length());
        due("lane E", laneOf("E"), 0);
        due("lane of the most", laneOf("EH00H11H22H33H09S000S111S222S333S444S000S000S000R0R1R2R3"), 584);
        due("lane of none", laneOf(""), DripEars.STATE);
        due("lane of half", laneOf("EH0"), DripEars.STATE);
        ears.hour();
        ears.lower(1);
        ears.change(0, 1);
        ears.keep(0);
        ears.hear(1, 1, 1);
        ears.seed(77);
        ears.write('X');
        due("lane with a fault", ears.lane(), DripEars.STATE);
        due("acts stay", ears.count(10), 3);
        due("the hour stays", ears.count(4), 1);
        rewrite(ears, TWO);
        due("lane anew", ears.lane(), 222);
        due("acts are gone", ears.count(10), 0);
        due("undo", ears.undo(), DripEars.STATE);
        due("kept is gone", ears.again(0), DripEars.STATE);
        due("heard stays", ears.count(11), 1);
        due("the seed stays", ears.seed(0), 77);
        due("the hour", ears.count(4), 0);
        due("dry", ears.count(6), 0);
        due("known", ears.count(8), 0);
        due("voice", ears.house(1, 1), 0);
        due("at his house", ears.house(0, 4), 0);
    }

    private static int laneOf(String text) {
        return written(text).lane();
    }

    private static void house() {
        promise = 6;
        DripEars ears = made(TWO);
        due("wall", ears.house(0, 0), 3);
        due("wall", ears.house(1, 0), 9);
        ears.raise(1);
        due("voice", ears.house(1, 1), 1);
        due("kind", ears.house(1, 2), 1);
        ears.hour();
        due("knows", ears.house(0, 3), 1);
        ears.change(0, 1);
        due("kind changed", ears.house(0, 2), 1);
        due("was told at", ears.house(0, 4), 1);
        due("was told at", ears.house(1, 4), 0);
        due("wall stays", ears.house(0, 0), 3);
        due("voice stays", ears.house(1, 1), 1);
        due("no such house", ears.house(2, 0), DripEars.UNKNOWN);
        due("no such house", ears.house(-1, 9), DripEars.UNKNOWN);
        due("what 6", ears.house(0, 6), DripEars.OUTSIDE);
        due("what -1", ears.house(0, -1), DripEars.OUTSIDE);
        for (int extreme : EXTREMES) {
            due("house " + extreme, ears.house(extreme, extreme), DripEars.UNKNOWN);
            due("what " + extreme, ears.house(1, extreme), DripEars.OUTSIDE);
        }
    }

    private static void houseHears() {
        DripEars ears = made(TWO);
        due("plain: 5 > 3", ears.house(0, 5), 1);
        due("keen next door: 7 > 5", ears.house(1, 5), 1);
        ears.lower(0);
        ears.lower(0);
        due("plain: 3 > 3", ears.house(0, 5), 0);
        due("keen next door: 5 > 5", ears.house(1, 5), 0);
        ears.raise(0);
        due("keen next door: 6 > 5", ears.house(1, 5), 1);
        due("dull: 5 - 2 > 2", made("EH22S005").house(0, 5), 1);
        due("dull: 5 - 2 > 3", made("EH23S005").house(0, 5), 0);
        due("by rain: 5 > 2 + 2", made("EH02S005R2").house(0, 5), 1);
        due("by rain: 5 > 2 + 3", made("EH02S005R3").house(0, 5), 0);
        due("married at it", made("EH39S000R9").house(0, 5), 1);
        due("married beside it: 4 > 1 + 2", made("EH01H31S004").house(1, 5), 1);
        due("married beside it: 3 > 1 + 2", made("EH01H31S003").house(1, 5), 0);
        due("two away: 5 > 0 + 4", made("EH00H00H09S005").house(2, 5), 1);
        due("two away: 4 > 0 + 4", made("EH00H00H09S004").house(2, 5), 0);
        due("nothing is said", made("EH30").house(0, 5), 0);
        DripEars strayed = made("EH30S009");
        hours(strayed, 3);
        due("married, strayed", strayed.house(0, 5), 0);
    }

    private static void saying() {
        promise = 7;
        DripEars ears = made(TWO);
        int[][] sayings = {{0, 0, 5}, {1, 4, 8}};
        for (int i = 0; i < 2; i++) {
            for (int what = 0; what < 3; what++) {
                due("saying " + i + ", " + what, ears.saying(i, what), sayings[i][what]);
            }
        }
        due("no such saying", ears.saying(2, 0), DripEars.UNKNOWN);
        due("no such saying", ears.saying(-1, 3), DripEars.UNKNOWN);
        due("what 3", ears.saying(0, 3), DripEars.OUTSIDE);
        due("what -1", ears.saying(0, -1), DripEars.OUTSIDE);
        for (int extreme : EXTREMES) {
            due("saying " + extreme, ears.saying(extreme, extreme), DripEars.UNKNOWN);
            due("what " + extreme, ears.saying(1, extreme), DripEars.OUTSIDE);
        }
    }

    private static void hour() {
        promise = 8;
        DripEars ears = made(TWO);
        due("both hear", ears.hour(), 2);
        due("the hour", ears.count(4), 1);
        due("dry", ears.count(6), 1);
        due("none hears: 10 > 11", ears.hour(), 0);
        due("dry by rain", ears.count(6), 0);
        due("both know it", ears.hour(), 0);
        due("knows", ears.house(1, 3), 1);
        due("acts", ears.count(10), 3);
        DripEars silent = made("EH00R4");
        due("nothing is said", silent.hour(), 0);
        due("dry by rain", silent.count(6), 0);
        DripEars empty = made("E");
        due("no house", empty.hour(), 0);
        due("no rain is dry", empty.count(6), 1);
    }

    private static void hourStrays() {
        DripEars ears = made("EH30H29S050S149");
        due("married hears", ears.hour(), 1);
        due("dull does not: 9 - 2 > 9", ears.hour(), 0);
        due("not strayed by 2", ears.count(7), 0);
        due("the third is told", ears.hour(), 1);
        due("strayed by 3", ears.count(7), 1);
        due("knows all", ears.house(1, 3), 32);
        due("hears no more", ears.count(9), 0);
        for (int dry = 4; dry < 14; dry++) {
            ears.hour();
            due("dry", ears.count(6), Math.min(dry, 9));
        }
        // Rain in the fourth hour: nobody hears in it yet, for they stray until it is over.
        DripEars rainy = made("EH00H00S009S009S009S019R0R0R0R1");
        hours(rainy, 3);
        due("strayed", rainy.count(7), 1);
        due("hears nothing", rainy.hour(), 0);
        due("back", rainy.count(7), 0);
        due("dry", rainy.count(6), 0);
        due("known", rainy.count(8), 1);
        // In the third dry hour he hears first and tells it at once.
        DripEars third = made("EH00H09H09S010S010S001");
        hours(third, 2);
        due("known", third.count(8), 0);
        due("all know more by the third", third.hour(), 3);
        due("told far away", third.house(2, 3), 1);
    }

    private static void lower() {
        promise = 9;
        DripEars ears = made(TWO);
        for (int voice = -1; voice >= -3; voice--) {
            due("lower", ears.lower(0), voice);
        }
        // -3 is a voice and a refusal: only the acts tell them apart.
        due("lower at -3", ears.lower(0), DripEars.STATE);
        due("acts", ears.count(10), 3);
        due("voice", ears.house(0, 1), -3);
        due("the other's voice", ears.house(1, 1), 0);
        due("no such house", ears.lower(2), DripEars.UNKNOWN);
        due("no such house", ears.lower(-1), DripEars.UNKNOWN);
        for (int extreme : EXTREMES) {
            due("lower " + extreme, ears.lower(extreme), DripEars.UNKNOWN);
        }
        due("acts", ears.count(10), 3);
    }

    private static void raise() {
        promise = 10;
        DripEars ears = made(TWO);
        for (int voice = 1; voice <= 3; voice++) {
            due("raise", ears.raise(1), voice);
        }
        due("raise at 3", ears.raise(1), DripEars.STATE);
        due("voice", ears.house(1, 1), 3);
        due("acts", ears.count(10), 3);
        due("no such house", ears.raise(2), DripEars.UNKNOWN);
        due("no such house", ears.raise(-1), DripEars.UNKNOWN);
        for (int extreme : EXTREMES) {
            due("raise " + extreme, ears.raise(extreme), DripEars.UNKNOWN);
        }
        due("acts", ears.count(10), 3);
    }

    private static void change() {
        promise = 11;
        DripEars ears = made(APART);
        hours(ears, 2);
        due("apart", ears.house(0, 3), 0);
        due("apart", ears.house(1, 3), 2);
        due("who comes to the one", ears.change(0, 1), 2);
        due("who went", ears.house(1, 3), 0);
        due("back", ears.change(0, 1), 0);
        due("both are one", ears.change(1, 1), DripEars.OUTSIDE);
        due("no such one", ears.change(3, 0), DripEars.UNKNOWN);
        due("no such other", ears.change(0, 3), DripEars.UNKNOWN);
        due("neither", ears.change(3, 3), DripEars.UNKNOWN);
        due("neither", ears.change(-1, -1), DripEars.UNKNOWN);
        for (int extreme : EXTREMES) {
            due("change " + extreme, ears.change(0, extreme), DripEars.UNKNOWN);
            due("change " + extreme, ears.change(extreme, 0), DripEars.UNKNOWN);
        }
        due("acts", ears.count(10), 4);
    }

    private static void plate() {
        promise = 12;
        DripEars ears = made(APART);
        hours(ears, 2);
        due("to the next one", ears.plate(1), 2);
        due("it is known there", ears.house(2, 3), 2);
        due("not backwards", ears.house(0, 3), 0);
        due("he who tells still knows", ears.house(1, 3), 2);
        due("nothing to tell", ears.plate(0), 2);
        due("no next one", ears.plate(2), DripEars.STATE);
        due("no such house", ears.plate(3), DripEars.UNKNOWN);
        due("no such house", ears.plate(-1), DripEars.UNKNOWN);
        for (int extreme : EXTREMES) {
            due("plate " + extreme, ears.plate(extreme), DripEars.UNKNOWN);
        }
        due("acts", ears.count(10), 4);
    }

    private static void undo() {
        promise = 13;
        DripEars ears = made(TWO);
        ears.hour();
        ears.lower(0);
        ears.raise(1);
        ears.change(0, 1);
        ears.plate(0);
        due("undo plate", ears.undo(), 4);
        due("undo change", ears.undo(), 3);
        due("at his house", ears.house(0, 4), 0);
        due("undo raise", ears.undo(), 2);
        due("voice", ears.house(1, 1), 0);
        due("undo lower", ears.undo(), 1);
        due("voice", ears.house(0, 1), 0);
        due("undo hour", ears.undo(), 0);
        due("the hour", ears.count(4), 0);
        due("dry", ears.count(6), 0);
        due("known", ears.count(8), 0);
        due("none is left", ears.undo(), DripEars.STATE);
        DripEars many = made("EH09");
        hours(many, 20);
        due("acts", many.count(10), 14);
        for (int left = 13; left >= 0; left--) {
            due("undo", many.undo(), left);
        }
        due("none is left", many.undo(), DripEars.STATE);
        due("the forgotten ones stay", many.count(4), 6);
        many.hour();
        due("acts", many.count(10), 1);
        due("undo", many.undo(), 0);
        due("the hour", many.count(4), 6);
    }

    private static void later() {
        promise = 14;
        DripEars ears = made(APART);
        int[] known = {0, 0, 2, 2, 2, 2, 2};
        for (int n = 0; n < known.length; n++) {
            due("later " + n, ears.later(1, n), known[n]);
        }
        due("later 30", ears.later(1, 30), 2);
        due("the hour stays", ears.count(4), 0);
        due("what is known stays", ears.count(8), 0);
        due("n 31", ears.later(1, 31), DripEars.OUTSIDE);
        due("n -1", ears.later(1, -1), DripEars.OUTSIDE);
        due("no such house", ears.later(3, 31), DripEars.UNKNOWN);
        for (int extreme : EXTREMES) {
            due("house " + extreme, ears.later(extreme, extreme), DripEars.UNKNOWN);
            due("n " + extreme, ears.later(0, extreme), DripEars.OUTSIDE);
        }
        due("told on the common", made("EH30H09S050").later(1, 2), 0);
        due("told on the common", made("EH30H09S050").later(1, 3), 32);
    }

    private static void first() {
        promise = 15;
        DripEars ears = made(APART);
        due("in the second hour", ears.first(1, 1), 2);
        due("never", ears.first(0, 1), DripEars.NONE);
        ears.hour();
        due("next hour", ears.first(1, 1), 1);
        ears.hour();
        due("now", ears.first(1, 1), 0);
        // The last of 7 is said in the hours 6, 13, 20, 27, of which the last alone is dry.
        due("in 28 hours", made("EH08S000S000S000S000S000S000S039R9R9R9R0").first(0, 3), 28);
        // The saying of place 7 of 8 is heard by a rain of 0 alone, in the 8th hour.
        due("in the eighth hour", made("EH08S000S000S000S000S000S000S000S039R9R9R9R0").first(0, 3), 8);
        due("no such thing", ears.first(0, 6), DripEars.UNKNOWN);
        due("no such thing", ears.first(0, -1), DripEars.UNKNOWN);
        due("no such house", ears.first(3, 0), DripEars.UNKNOWN);
        for (int extreme : EXTREMES) {
            due("house " + extreme, ears.first(extreme, 0), DripEars.UNKNOWN);
            due("thing " + extreme, ears.first(0, extreme), DripEars.UNKNOWN);
        }
    }

    private static void keeps() {
        promise = 16;
        // Plain at a wall of 3, loud by 5: heard until it is lowered by 2.
        DripEars ears = made(TWO);
        due("how many", ears.keeps(0, 0, 1, 0), 2);
        due("figures", ears.keeps(0, 0, 1, 1), 20);
        due("none needed", ears.keeps(0, 4, 12, 0), 0);
        due("none needed", ears.keeps(0, 4, 12, 1), 0);
        due("keen next door: 7 - 2 > 5", ears.keeps(1, 0, 12, 1), 20);
        ears.lower(0);
        due("one is done", ears.keeps(0, 0, 1, 0), 1);
        ears.raise(0);
        ears.raise(0);
        due("one more", ears.keeps(0, 0, 1, 0), 3);
        ears.raise(0);
        due("too loud for 3", ears.keeps(0, 0, 1, 0), DripEars.NONE);
        due("too loud for 3", ears.keeps(0, 0, 1, 1), DripEars.NONE);
        // Both houses say it and the middle one hears both: the least figures lower neither more than needed.
        DripEars both = made("EH00H00H00S001S203R1");
        due("only the far one", both.keeps(2, 0, 2, 1), 2);
        DripEars deep = made("EH05S009R1");
        deep.lower(0);
        deep.lower(0);
        due("as far as it goes down: 9 - 3 > 6", deep.keeps(0, 0, 1, 0), 1);
        DripEars deeper = made("EH04S009R1");
        deeper.lower(0);
        deeper.lower(0);
        due("not further: 9 - 3 > 5", deeper.keeps(0, 0, 1, 0), DripEars.NONE);
        due("married", made("EH39S009").keeps(0, 0, 1, 0), DripEars.NONE);
        ears.hour();
        due("known already", ears.keeps(0, 0, 1, 0), DripEars.NONE);
        due("no such house", ears.keeps(2, 0, 0, 2), DripEars.UNKNOWN);
        due("no such thing", ears.keeps(0, 6, 0, 2), DripEars.UNKNOWN);
        due("n 0", ears.keeps(0, 0, 0, 0), DripEars.OUTSIDE);
        due("n 13", ears.keeps(0, 0, 13, 0), DripEars.OUTSIDE);
        due("what 2", ears.keeps(0, 0, 1, 2), DripEars.OUTSIDE);
        due("what -1", ears.keeps(0, 0, 1, -1), DripEars.OUTSIDE);
        for (int extreme : EXTREMES) {
            due("house " + extreme, ears.keeps(extreme, 0, 1, 0), DripEars.UNKNOWN);
            due("thing " + extreme, ears.keeps(0, extreme, 1, 0), DripEars.UNKNOWN);
            due("n " + extreme, ears.keeps(0, 0, extreme, 0), DripEars.OUTSIDE);
            due("what " + extreme, ears.keeps(0, 0, 1, extreme), DripEars.OUTSIDE);
        }
    }

    private static void tells() {
        promise = 17;
        // Houses 0 and 2 know things 0 and 1 each for itself, house 1 neither.
        DripEars ears = made("EH00H09H00S001S211R0R0R1");
        hours(ears, 2);
        due("two", ears.tells(3, 0), 2);
        due("which", ears.tells(3, 1), 5);
        due("one", ears.tells(2, 0), 1);
        due("which", ears.tells(2, 1), 4);
        due("nothing", ears.tells(0, 0), 0);
        due("nothing", ears.tells(0, 1), 0);
        due("none", ears.tells(4, 0), DripEars.NONE);
        due("none", ears.tells(63, 1), DripEars.NONE);
        ears.plate(0);
        due("the least of like ones", ears.tells(1, 1), 1);
        ears.plate(1);
        due("one knows both", ears.tells(3, 0), 1);
        due("which", ears.tells(3, 1), 4);
        // Houses 0 and 1 know a thing each, house 2 both: it alone is fewer, though its bits are more.
        DripEars alone = made("EH00H00H00S001S111S201S211R0R0R0");
        hours(alone, 2);
        alone.plate(1);
        alone.change(1, 2);
        alone.change(0, 1);
        alone.plate(1);
        due("0 knows", alone.house(0, 3), 2);
        due("1 knows", alone.house(1, 3), 1);
        due("2 knows", alone.house(2, 3), 3);
        due("fewer", alone.tells(3, 0), 1);
        due("which", alone.tells(3, 1), 4);
        due("things 64", ears.tells(64, 0), DripEars.OUTSIDE);
        due("things -1", ears.tells(-1, 0), DripEars.OUTSIDE);
        due("what 2", ears.tells(0, 2), DripEars.OUTSIDE);
        due("what -1", ears.tells(0, -1), DripEars.OUTSIDE);
        for (int extreme : EXTREMES) {
            due("things " + extreme, ears.tells(extreme, 0), DripEars.OUTSIDE);
            due("what " + extreme, ears.tells(0, extreme), DripEars.OUTSIDE);
        }
    }

    private static void judge() {
        promise = 18;
        DripEars ears = made(TWO);
        due("an hour, he knows it", ears.judge(2, 500L), DripEars.NONE);
        due("he does not know it yet", ears.judge(1, 500L), 0);
        due("the other one too", ears.judge(2, 510L), DripEars.NONE);
        due("no such thing", ears.judge(2, 506L), 1);
        due("no such house", ears.judge(2, 520L), 1);
        due("lowered four times", ears.judge(4, 101101101101L), 3);
        due("raised four times", ears.judge(4, 200200200200L), 3);
        due("lowered, no such house", ears.judge(1, 102L), 0);
        due("raised, no such house", ears.judge(1, 202L), 0);
        due("changed", ears.judge(1, 301L), DripEars.NONE);
        due("changed with himself", ears.judge(1, 311L), 0);
        due("changed, no such house", ears.judge(1, 302L), 0);
        due("changed, no such house", ears.judge(1, 320L), 0);
        due("plate", ears.judge(1, 400L), DripEars.NONE);
        due("plate, no next one", ears.judge(1, 401L), 0);
        due("dry by 0", ears.judge(1, 600L), DripEars.NONE);
        due("dry by 1", ears.judge(1, 601L), 0);
        due("dry by 1 behind an hour", ears.judge(2, 601L), DripEars.NONE);
        due("dry by 2 behind two", ears.judge(3, 602L), 2);
        due("the first that can not be", ears.judge(3, 700999L), 1);
        due("an hour has no house", ears.judge(1, 1L), 0);
        due("an hour has no house", ears.judge(1, 10L), 0);
        due("a middle figure", ears.judge(1, 110L), 0);
        due("a middle figure", ears.judge(1, 210L), 0);
        due("a middle figure", ears.judge(1, 410L), 0);
        due("a middle figure", ears.judge(1, 610L), 0);
        due("no such doing", ears.judge(1, 700L), 0);
        due("lowered, not heard: 5 - 3 > 3", ears.judge(4, 100100000500L), 3);
        due("nothing changed", ears.count(10), 0);
        due("nothing changed", ears.house(0, 1), 0);
        due("n 0", ears.judge(0, 0L), DripEars.OUTSIDE);
        due("n 5", ears.judge(5, 0L), DripEars.OUTSIDE);
        due("row -1", ears.judge(1, -1L), DripEars.OUTSIDE);
        due("row of 4 figures", ears.judge(1, 1000L), DripEars.OUTSIDE);
        due("row of 13 figures", ears.judge(4, 1000000000000L), DripEars.OUTSIDE);
        due("the most of 12 figures", ears.judge(4, 999999999999L), 0);
        for (int extreme : EXTREMES) {
            due("n " + extreme, ears.judge(extreme, 0L), DripEars.OUTSIDE);
        }
        due("row", ears.judge(4, Long.MAX_VALUE), DripEars.OUTSIDE);
        due("row", ears.judge(4, Long.MIN_VALUE), DripEars.OUTSIDE);
    }

    private static void hear() {
        promise = 19;
        DripEars ears = new DripEars();
        due("loud 10", ears.hear(10, 0, 0), DripEars.OUTSIDE);
        due("loud -1", ears.hear(-1, 0, 0), DripEars.OUTSIDE);
        due("rain 10", ears.hear(0, 10, 0), DripEars.OUTSIDE);
        due("rain -1", ears.hear(0, -1, 0), DripEars.OUTSIDE);
        due("heard 2", ears.hear(0, 0, 2), DripEars.OUTSIDE);
        due("heard -1", ears.hear(0, 0, -1), DripEars.OUTSIDE);
        for (int extreme : EXTREMES) {
            due("loud " + extreme, ears.hear(extreme, 0, 0), DripEars.OUTSIDE);
            due("rain " + extreme, ears.hear(0, extreme, 0), DripEars.OUTSIDE);
            due("heard " + extreme, ears.hear(0, 0, extreme), DripEars.OUTSIDE);
        }
        for (int size = 1; size <= 6; size++) {
            due("hear", ears.hear(9, 9, 0), size);
        }
        due("a seventh", ears.hear(9, 9, 0), DripEars.FULL);
        due("a seventh outside", ears.hear(9, 10, 0), DripEars.OUTSIDE);
        due("heard", ears.count(11), 6);
    }

    private static void unhear() {
        promise = 20;
        DripEars ears = new DripEars();
        due("nothing", ears.unhear(), 0);
        ears.hear(0, 9, 1);
        ears.hear(0, 9, 1);
        due("two", ears.unhear(), 2);
        due("nothing", ears.count(11), 0);
        due("all fit again", ears.ears(0), 30);
        due("hear", ears.hear(0, 0, 0), 1);
    }

    private static void ears() {
        promise = 21;
        DripEars ears = new DripEars();
        due("all", ears.ears(0), 30);
        due("the first", ears.ears(1), 0);
        // 5 and the ear are more than the wall: walls below 5, 7, 3.
        ears.hear(5, 0, 1);
        due("walls below", ears.ears(0), 15);
        due("the first", ears.ears(1), 0);
        // 5 and the ear are not more than the wall and 2: walls from 3, 5, 1.
        ears.hear(5, 2, 0);
        due("walls between", ears.ears(0), 6);
        due("the first", ears.ears(1), 3);
        // 1 and the ear are more than the wall: only the keen one, walls below 3.
        ears.unhear();
        ears.hear(0, 0, 1);
        due("keen alone", ears.ears(0), 2);
        due("the first", ears.ears(1), 10);
        ears.hear(0, 0, 0);
        due("nobody", ears.ears(0), 0);
        due("nobody", ears.ears(1), DripEars.NONE);
        due("what 2", ears.ears(2), DripEars.OUTSIDE);
        due("what -1", ears.ears(-1), DripEars.OUTSIDE);
        for (int extreme : EXTREMES) {
            due("what " + extreme, ears.ears(extreme), DripEars.OUTSIDE);
        }
    }

    private static void share() {
        promise = 22;
        // House 0 knows 0 alone; 1 is known by houses 1 and 2 (told by plate), none knows more.
        DripEars ears = made("EH00H00H09S001S111R0");
        hours(ears, 2);
        ears.plate(1);
        due("alone, above", ears.share(0, true), 1);
        due("alone, below", ears.share(0, false), 1);
        due("half, above", ears.share(1, true), 1);
        due("half, below", ears.share(1, false), 2);
        ears.plate(0);
        due("a half and a half, above", ears.share(0, true), 1);
        due("a half and a half, below", ears.share(0, false), 2);
        due("one in all, above", ears.share(1, true), 1);
        due("one in all, below", ears.share(1, false), 1);
        ears.plate(1);
        due("a third and a half, above", ears.share(1, true), 5);
        due("a third and a half, below", ears.share(1, false), 6);
        DripEars nobody = made(TWO);
        due("nothing, above", nobody.share(0, true), 0);
        due("nothing, below", nobody.share(0, false), 1);
        due("no such house", ears.share(3, true), DripEars.UNKNOWN);
        due("no such house", ears.share(-1, false), DripEars.UNKNOWN);
        for (int extreme : EXTREMES) {
            due("share " + extreme, ears.share(extreme, true), DripEars.UNKNOWN);
            due("share " + extreme, ears.share(extreme, false), DripEars.UNKNOWN);
        }
    }

    private static void rests() {
        promise = 23;
        // Nothing is said: to lower costs 1, so only 0, 0 rests.
        DripEars silent = made("EH00H00");
        due("silent", silent.rests(0, 1, 0), 1);
        due("silent", silent.rests(0, 1, 1), 0);
        // One lowering hides two things of house 0 from its hearer: worth 1, so 1, 0 alone rests.
        DripEars two = made("EH00H00S001S011R0R0R1");
        due("worth it", two.rests(0, 1, 0), 1);
        due("worth it", two.rests(0, 1, 1), 10);
        due("the other way", two.rests(1, 0, 1), 1);
        // It hides one thing: worth nothing, costs nothing: both choices rest.
        DripEars one = made("EH00H00S001R0R0R1");
        due("as good", one.rests(0, 1, 0), 2);
        due("as good", one.rests(0, 1, 1), 0);
        due("as good for the other too", one.rests(1, 0, 0), 2);
        // House 1 overhears house 0, whose lowering it would like and does not get.
        DripEars overheard = made("EH00H00S003S013S023R0R1");
        due("overheard", overheard.rests(1, 0, 0), 1);
        due("overheard", overheard.rests(1, 0, 1), 0);
        // The fifth hour, in which a second thing is heard, is one too late to count.
        DripEars five = made("EH00H00S001S000S000S000S011R0R1");
        due("four hours", five.rests(0, 1, 0), 2);
        two.lower(0);
        two.lower(0);
        two.lower(0);
        due("cannot be lowered", two.rests(0, 1, 0), 1);
        due("cannot be lowered", two.rests(0, 1, 1), 0);
        due("nothing changed", two.count(4), 0);
        due("both are one", one.rests(1, 1, 0), DripEars.OUTSIDE);
        due("what 2", one.rests(0, 1, 2), DripEars.OUTSIDE);
        due("what -1", one.rests(0, 1, -1), DripEars.OUTSIDE);
        due("no such one", one.rests(2, 1, 2), DripEars.UNKNOWN);
        due("no such other", one.rests(1, 2, 2), DripEars.UNKNOWN);
        due("neither", one.rests(2, 2, 0), DripEars.UNKNOWN);
        for (int extreme : EXTREMES) {
            due("rests " + extreme, one.rests(extreme, 0, 0), DripEars.UNKNOWN);
            due("rests " + extreme, one.rests(0, extreme, 0), DripEars.UNKNOWN);
            due("what " + extreme, one.rests(0, 1, extreme), DripEars.OUTSIDE);
        }
    }

    private static void dries() {
        promise = 24;
        // Heard only if the hour is dry.
        DripEars ears = made("EH08S009R1");
        due("3 tenths, above", ears.dries(0, 0, 1, 3, true), 3);
        due("3 tenths, below", ears.dries(0, 0, 1, 3, false), 10);
        due("1 less 7 tenths twice, above", ears.dries(0, 0, 2, 3, true), 51);
        due("1 less 7 tenths twice, below", ears.dries(0, 0, 2, 3, false), 100);
        due("a half, above", ears.dries(0, 0, 1, 5, true), 1);
        due("a half, below", ears.dries(0, 0, 1, 5, false), 2);
        due("never dry, above", ears.dries(0, 0, 6, 0, true), 0);
        due("never dry, below", ears.dries(0, 0, 6, 0, false), 1);
        due("always dry, above", ears.dries(0, 0, 6, 10, true), 1);
        due("always dry, below", ears.dries(0, 0, 6, 10, false), 1);
        due("1 less 9 tenths six times, above", ears.dries(0, 0, 6, 1, true), 468559);
        due("1 less 9 tenths six times, below", ears.dries(0, 0, 6, 1, false), 1000000);
        // The other one knows it when three dry hours come together: in 3 hours a half each.
        DripEars far = made("EH30H09S000R1");
        due("on the common, above", far.dries(1, 0, 3, 5, true), 1);
        due("on the common, below", far.dries(1, 0, 3, 5, false), 8);
        due("on the common in 4 hours, above", far.dries(1, 0, 4, 5, true), 3);
        due("on the common in 4 hours, below", far.dries(1, 0, 4, 5, false), 16);
        due("as told it is dry", made("EH08S009R0").dries(0, 0, 1, 0, true), 1);
        due("nothing changed", ears.count(4), 0);
        for (int side = 0; side < 2; side++) {
            due("n 0", ears.dries(0, 0, 0, 0, side == 0), DripEars.OUTSIDE);
            due("n 7", ears.dries(0, 0, 7, 0, side == 0), DripEars.OUTSIDE);
            due("x -1", ears.dries(0, 0, 1, -1, side == 0), DripEars.OUTSIDE);
            due("x 11", ears.dries(0, 0, 1, 11, side == 0), DripEars.OUTSIDE);
            due("no such house", ears.dries(1, 0, 0, 0, side == 0), DripEars.UNKNOWN);
            due("no such thing", ears.dries(0, 6, 0, 0, side == 0), DripEars.UNKNOWN);
        }
        for (int extreme : EXTREMES) {
            due("house " + extreme, ears.dries(extreme, 0, 1, 1, true), DripEars.UNKNOWN);
            due("thing " + extreme, ears.dries(0, extreme, 1, 1, true), DripEars.UNKNOWN);
            due("n " + extreme, ears.dries(0, 0, extreme, 1, true), DripEars.OUTSIDE);
            due("x " + extreme, ears.dries(0, 0, 1, extreme, true), DripEars.OUTSIDE);
        }
    }

    private static void seed() {
        promise = 25;
        DripEars ears = new DripEars();
        due("at first", ears.seed(Long.MIN_VALUE), 0);
        due("what it was", ears.seed(-1), Long.MIN_VALUE);
        due("what it was", ears.seed(0), -1);
    }

    /** A seed whose next x has the wished lot in its upper bits, by trial. */
    private static long seedFor(int lot) {
        for (long v = 0; v < 100000; v++) {
            long x = v * 6364136223846793005L + 1442695040888963407L;
            if ((x >>> 33) % 32 == lot) {
                return v;
            }
        }
        return 0;
    }

    private static void years() {
        promise = 26;
        DripEars ears = made(APART);
        hours(ears, 2);
        ears.plate(1);
        // Houses 1 and 2 know thing 1, and no lot by itself adds anything: the saying of the hour is drowned.
        for (int lot = 0; lot < 32; lot++) {
            ears.seed(seedFor(lot));
            due("lot " + lot, ears.years(1), 2);
        }
        ears.change(0, 1);
        ears.seed(seedFor(14));
        due("plate of house 0", ears.years(1), 3);
        ears.seed(seedFor(15));
        due("plate of house 1", ears.years(1), 2);
        yearsOfTwo();
        DripEars married = made("EH30H09S000");
        married.seed(seedFor(18));
        due("an hour", married.years(1), 1);
        married.seed(seedFor(17));
        due("no such house", married.years(1), 0);
        due("nothing changed", married.count(4), 0);
        due("nothing changed", married.count(10), 0);
        married.seed(0);
        married.years(2);
        due("the seed", married.seed(0), 1442695040888963407L * 6364136223846793005L + 1442695040888963407L);
        due("m 0", married.years(0), DripEars.OUTSIDE);
        due("m 31", married.years(31), DripEars.OUTSIDE);
        for (int extreme : EXTREMES) {
            due("m " + extreme, married.years(extreme), DripEars.OUTSIDE);
        }
        due("the seed stays", married.seed(0), 0);
    }

    /** A seed by which two lots come one behind the other, by trial. */
    private static long seedFor(int lot, int next) {
        for (long v = 0; v < 1000000; v++) {
            long x = v * 6364136223846793005L + 1442695040888963407L;
            long y = x * 6364136223846793005L + 1442695040888963407L;
            if ((x >>> 33) % 32 == lot && (y >>> 33) % 32 == next) {
                return v;
            }
        }
        return 0;
    }

    private static void yearsOfTwo() {
        // Loud by 1 in house 2, wall 0: plain at it hears, until it is lowered.
        DripEars plain = made("EH09H09H00S201R0");
        plain.seed(seedFor(2, 31));
        due("lowered, an hour", plain.years(2), 0);
        plain.seed(seedFor(1, 31));
        due("another lowered, an hour", plain.years(2), 1);
        // Raised it is heard next door too, loud by 2 then 3.
        DripEars loud = made("EH09H09H00S202R0");
        loud.seed(seedFor(7, 31));
        due("raised, an hour", loud.years(2), 2);
        loud.seed(seedFor(6, 31));
        due("another raised, an hour", loud.years(2), 1);
        // Loud by 0 the first is heard only raised, loud by 1 only not lowered.
        DripEars soft = made("EH00S000R0");
        soft.seed(seedFor(5, 31));
        due("the first is raised", soft.years(2), 1);
        DripEars loudEnough = made("EH00S001R0");
        loudEnough.seed(seedFor(0, 31));
        due("the first is lowered", loudEnough.years(2), 0);
        DripEars wife = made("EH09H39S000R1");
        wife.seed(seedFor(10, 31));
        due("the first is changed", wife.years(2), 1);
        // Only the married one hears, and only at house 2.
        DripEars married = made("EH09H39H09H09H09S200R1");
        int[] changes = {0, 1, 0, 0};
        for (int i = 0; i < 4; i++) {
            married.seed(seedFor(10 + i, 18));
            due("changed by " + (10 + i) + ", an hour", married.years(2), changes[i]);
        }
        DripEars fifth = made("EH09H09H09H39H00S401R0");
        fifth.seed(seedFor(13, 18));
        due("changed with the last", fifth.years(2), 1);
        fifth.seed(seedFor(4, 18));
        due("the last is lowered", fifth.years(2), 0);
        fifth.seed(seedFor(9, 18));
        due("the last is raised", fifth.years(2), 1);
        fifth.seed(seedFor(18, 17));
        due("the last is no one's neighbour", fifth.years(2), 2);
    }

    private static void keep() {
        promise = 27;
        DripEars ears = made(TWO);
        ears.hour();
        due("the hour", ears.keep(0), 1);
        due("acts stay", ears.count(10), 1);
        ears.hour();
        due("the hour", ears.keep(1), 2);
        due("kept over", ears.keep(0), 2);
        due("slot 2", ears.keep(2), DripEars.UNKNOWN);
        due("slot -1", ears.keep(-1), DripEars.UNKNOWN);
        for (int extreme : EXTREMES) {
            due("slot " + extreme, ears.keep(extreme), DripEars.UNKNOWN);
        }
    }

    private static void again() {
        promise = 28;
        DripEars ears = made(TWO);
        due("none was kept", ears.again(0), DripEars.STATE);
        ears.hour();
        ears.lower(0);
        ears.change(0, 1);
        ears.keep(1);
        hours(ears, 2);
        ears.raise(0);
        ears.change(0, 1);
        ears.seed(9);
        ears.hear(1, 1, 1);
        due("none was kept", ears.again(0), DripEars.STATE);
        due("acts stay", ears.count(10), 7);
        due("again", ears.again(1), 1);
        due("acts are gone", ears.count(10), 0);
        due("undo", ears.undo(), DripEars.STATE);
        due("the hour", ears.count(4), 1);
        due("dry", ears.count(6), 1);
        due("voice", ears.house(0, 1), -1);
        due("hearer", ears.house(0, 4), 1);
        due("knows", ears.house(0, 3), 1);
        due("the seed stays", ears.seed(0), 9);
        due("heard stays", ears.count(11), 1);
        ears.hour();
        due("once more", ears.again(1), 1);
        due("slot 2", ears.again(2), DripEars.UNKNOWN);
        due("slot -1", ears.again(-1), DripEars.UNKNOWN);
        for (int extreme : EXTREMES) {
            due("slot " + extreme, ears.again(extreme), DripEars.UNKNOWN);
        }
        DripEars strayed = made("EH00");
        hours(strayed, 3);
        strayed.keep(0);
        strayed.undo();
        due("not strayed", strayed.count(7), 0);
        strayed.again(0);
        due("strayed again", strayed.count(7), 1);
    }

    private static void count() {
        promise = 29;
        DripEars ears = made(TWO);
        ears.hour();
        ears.hear(0, 0, 0);
        long[] counts = {19, 2, 2, 2, 1, 2, 1, 0, 1, 0, 1, 1};
        for (int what = 0; what < counts.length; what++) {
            due("count " + what, ears.count(what), counts[what]);
        }
        ears.hour();
        due("the rain of the hour", ears.count(5), 0);
        due("heard at both", ears.count(9), 3);
        due("what 12", ears.count(12), DripEars.OUTSIDE);
        due("what -1", ears.count(-1), DripEars.OUTSIDE);
        for (int extreme : EXTREMES) {
            due("what " + extreme, ears.count(extreme), DripEars.OUTSIDE);
        }
    }
}
