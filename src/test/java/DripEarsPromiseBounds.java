import java.io.IOException;

/** The boundary cases of the document's promises 1 to 29: each call's answer at its edges, and each refusal. */
public final class DripEarsPromiseBounds {
    private static final String TWO = "EH03H19S005S148R0R2";
    private static final String THREE = "EH39H39H39S000S110S220R1";

    public static void main(String[] args) throws IOException {
        newObject();
        write();
        wipe();
        fault();
        lane();
        house();
        saying();
        hour();
        lower();
        raise();
        change();
        plate();
        undo();
        later();
        first();
        keeps();
        tells();
        judge();
        hear();
        unhear();
        ears();
        share();
        rests();
        dries();
        seed();
        years();
        keep();
        again();
        count();
        Due.end();
    }

    private static void newObject() {
        Due.sentence("`DripEars()`: No houses.");
        DripEars ears = new DripEars();
        for (int what = 0; what <= 11; what++) {
            Due.due("count " + what, ears.count(what), 0);
        }
        Due.due("house", ears.house(0, 0), Due.UNKNOWN);
        Due.due("saying", ears.saying(0, 0), Due.UNKNOWN);
        Due.due("lower", ears.lower(0), Due.UNKNOWN);
        Due.due("raise", ears.raise(0), Due.UNKNOWN);
        Due.due("change", ears.change(0, 1), Due.UNKNOWN);
        Due.due("plate", ears.plate(0), Due.UNKNOWN);
        Due.due("undo", ears.undo(), Due.STATE);
        Due.due("later", ears.later(0, 0), Due.UNKNOWN);
        Due.due("first", ears.first(0, 0), Due.UNKNOWN);
        Due.due("keeps", ears.keeps(0, 0, 1, 0), Due.UNKNOWN);
        Due.due("share", ears.share(0, false), Due.UNKNOWN);
        Due.due("rests", ears.rests(0, 1, 0), Due.UNKNOWN);
        Due.due("dries", ears.dries(0, 0, 1, 0, false), Due.UNKNOWN);
        Due.due("again", ears.again(0), Due.STATE);
        Due.due("years", ears.years(30), 0);
        Due.due("judge", ears.judge(1, 100), 0);
        Due.due("an hour", ears.hour(), 0);
        Due.due("the hour", ears.count(4), 1);
        DripEars other = new DripEars();
        Due.due("another object has its own hour", other.count(4), 0);
    }

    private static void write() {
        Due.sentence("A letter (0 to 255) comes behind THE TEXT: how long it is. OUTSIDE; FULL: there are 64.");
        DripEars ears = new DripEars();
        Due.dueRange("write", 0, 255, Due.OUTSIDE, ears::write);
        Due.due("letters", ears.count(0), 2);
        for (int length = 3; length <= 64; length++) {
            Due.due("write", ears.write(length), length);
        }
        Due.due("write a 65th", ears.write(0), Due.FULL);
        Due.due("write a 65th", ears.write(255), Due.FULL);
        Due.due("letters", ears.count(0), 64);
        ears.wipe();
        Due.due("write behind wipe", ears.write('E'), 1);
        Due.due("the new text counts", ears.fault(), Due.NONE);
    }

    private static void wipe() {
        Due.sentence("THE TEXT is empty: how long it was.");
        DripEars ears = new DripEars();
        Due.due("wipe of nothing", ears.wipe(), 0);
        ears.write('E');
        Due.due("wipe of one", ears.wipe(), 1);
        Due.writeOn(ears, "E".repeat(64));
        Due.due("wipe of the most", ears.wipe(), 64);
        Due.due("wipe again", ears.wipe(), 0);
        Due.due("fault", ears.fault(), 0);
        DripEars made = Due.made(TWO);
        made.hour();
        made.wipe();
        Due.due("the lane stays", made.count(1), 2);
        Due.due("the hour stays", made.count(4), 1);
    }

    private static void fault() {
        Due.sentence("`int fault()`: FAULT; NONE.");
        Due.dueFault("", 0);
        Due.dueFault("E", Due.NONE);
        Due.dueFault("F", 0);
        Due.dueFault(TWO, Due.NONE);
        Due.dueFault(TWO + "S", TWO.length() + 1);
        Due.dueFault(TWO + "S2", TWO.length() + 1);
        DripEars ears = Due.made(TWO);
        ears.write('X');
        Due.due("fault behind a lane", ears.fault(), TWO.length());
        Due.due("fault again", ears.fault(), TWO.length());
        Due.due("the lane stays", ears.count(1), 2);
    }

    private static void lane() {
        Due.sentence("THE TEXT is THE LANE (THE ROW of ACTS is empty, what was kept is gone; HEARD, THE SEED stay): "
            + "100 times HOUSES, 10 times SAYINGS, and RAINS.");
        Due.due("the least", Due.written("E").lane(), 0);
        Due.due("rains alone", Due.written("ER0R0R0R0").lane(), 4);
        Due.due("houses alone", Due.written("EH00H00H00H00H00").lane(), 500);
        DripEars ears = Due.made(TWO);
        ears.hour();
        ears.keep(0);
        ears.keep(1);
        ears.hear(1, 2, 0);
        ears.seed(Long.MIN_VALUE);
        int fitting = ears.ears(0);
        Due.due("lane", ears.lane(), 222);
        Due.due("acts", ears.count(10), 0);
        Due.due("undo", ears.undo(), Due.STATE);
        Due.due("slot 0 is gone", ears.again(0), Due.STATE);
        Due.due("slot 1 is gone", ears.again(1), Due.STATE);
        Due.due("heard stays", ears.count(11), 1);
        Due.due("what was heard stays", ears.ears(0), fitting);
        Due.due("the text stays", ears.count(0), TWO.length());
        Due.due("the seed stays", ears.seed(0), Long.MIN_VALUE);
        Due.sentence("STATE: a FAULT.");
        for (String text : new String[] {"", "X", "EH", "EH0", "EH00S", "EH00S00", "ER", "EH4", "ES000", "EH00S100"}) {
            Due.due("lane of '" + text + "'", Due.written(text).lane(), Due.STATE);
        }
    }

    private static void house() {
        Due.sentence("Of a HOUSE its WALL (what = 0), VOICE (1), the KIND of the HEARER at it (2), THINGS that he knows (3: bits), "
            + "at which HOUSE he was as told (4), 1 if he would HEAR the SAYING of THE HOUR by the RAIN of THE HOUR now (5). "
            + "UNKNOWN; OUTSIDE.");
        DripEars ears = Due.made("EH39H00H12H23H04S050S151R3R0");
        int[][] due = {{9, -3, 0, 0, 4, 0}, {0, 1, 0, 0, 1, 1}, {2, 0, 1, 0, 2, 1}, {3, 0, 2, 0, 3, 0}, {4, 3, 3, 32, 0, 0}};
        ears.hour();
        Due.lowered(ears, 0, 3);
        ears.raise(1);
        Due.raised(ears, 4, 3);
        ears.change(0, 4);
        for (int house = 0; house < 5; house++) {
            for (int what = 0; what <= 5; what++) {
                Due.due("house " + house + ", " + what, ears.house(house, what), due[house][what]);
            }
        }
        Due.dueRange("house", 0, 4, Due.UNKNOWN, number -> ears.house(number, 0));
        Due.dueRange("what", 0, 5, Due.OUTSIDE, number -> ears.house(1, number));
    }

    private static void saying() {
        Due.sentence("Of a SAYING its HOUSE (what = 0), THING (1), LOUD (2). UNKNOWN: there is none such; OUTSIDE.");
        DripEars ears = Due.made("EH00H00H00H00H00S000S411S122S233S344S055S006S459");
        int[][] due = {{0, 0, 0}, {4, 1, 1}, {1, 2, 2}, {2, 3, 3}, {3, 4, 4}, {0, 5, 5}, {0, 0, 6}, {4, 5, 9}};
        for (int saying = 0; saying < 8; saying++) {
            for (int what = 0; what <= 2; what++) {
                Due.due("saying " + saying + ", " + what, ears.saying(saying, what), due[saying][what]);
            }
        }
        Due.dueRange("saying", 0, 7, Due.UNKNOWN, number -> ears.saying(number, 0));
        Due.dueRange("what", 0, 2, Due.OUTSIDE, number -> ears.saying(7, number));
        Due.due("no sayings", Due.made("EH00").saying(0, 0), Due.UNKNOWN);
    }

    private static void hour() {
        Due.sentence("AN HOUR: how many HEARERS know more by it.");
        Due.due("no hearers", Due.made("E").hour(), 0);
        DripEars all = Due.made("EH10H10H10H10H10S209S209R1");
        Due.due("all five", all.hour(), 5);
        Due.due("they know it already", all.hour(), 0);
        Due.due("nothing is said", Due.made("EH30").hour(), 0);
        Due.due("nobody hears", Due.made("EH09S009").hour(), 0);
        // In the third dry hour he hears one thing and is told another: he is one hearer who knows more.
        DripEars third = Due.made("EH30H39S000S000S110");
        Due.due("the first dry hour", third.hour(), 1);
        Due.due("the second", third.hour(), 0);
        Due.due("the third", third.hour(), 2);
        Due.due("the fourth", third.hour(), 0);
        Due.due("acts", third.count(10), 4);
        // He hears it and tells it in the third dry hour, and is told nothing himself.
        DripEars teller = Due.made("EH39H09S150S150S000");
        Due.hours(teller, 2);
        Due.due("who hears it and who is told", teller.hour(), 2);
    }

    private static void lower() {
        Due.sentence("LOWERED: the VOICE then. UNKNOWN; STATE: it is -3.");
        DripEars ears = Due.made("EH00H00H00H00H00");
        for (int house : new int[] {0, 4}) {
            Due.due("lower", ears.lower(house), -1);
            Due.due("lower", ears.lower(house), -2);
            Due.due("lower", ears.lower(house), -3);
            Due.due("lower at -3", ears.lower(house), Due.STATE);
            Due.due("voice", ears.house(house, 1), -3);
        }
        Due.due("acts: -3 is also what the last one answers", ears.count(10), 6);
        DripEars raised = Due.made("EH00H00");
        Due.raised(raised, 0, 3);
        Due.raised(raised, 1, 3);
        Due.dueRange("house", 0, 1, Due.UNKNOWN, raised::lower);
    }

    private static void raise() {
        Due.sentence("RAISED: the VOICE then. UNKNOWN; STATE: it is 3.");
        DripEars ears = Due.made("EH00H00H00H00H00");
        for (int house : new int[] {0, 4}) {
            Due.due("raise", ears.raise(house), 1);
            Due.due("raise", ears.raise(house), 2);
            Due.due("raise", ears.raise(house), 3);
            Due.due("raise at 3", ears.raise(house), Due.STATE);
            Due.due("voice", ears.house(house, 1), 3);
        }
        Due.due("acts", ears.count(10), 6);
        Due.dueRange("house", 0, 1, Due.UNKNOWN, Due.made("EH00H00")::raise);
        Due.dueRange("house", 0, 0, Due.UNKNOWN, Due.made("EH00")::raise);
    }

    private static void change() {
        Due.sentence("CHANGED: THINGS that he knows who comes to the one (bits). UNKNOWN: both; OUTSIDE: both are one.");
        DripEars ears = Due.made(THREE);
        Due.hours(ears, 3);
        Due.due("who comes to 0", ears.change(0, 2), 4);
        Due.due("who came to 2", ears.house(2, 3), 1);
        Due.due("who comes to 2", ears.change(2, 0), 4);
        Due.due("who comes to 1", ears.change(1, 2), 4);
        for (int house = 0; house < 3; house++) {
            Due.due("both are " + house, ears.change(house, house), Due.OUTSIDE);
        }
        Due.due("acts", ears.count(10), 6);
        Due.dueRange("one", 0, 2, Due.UNKNOWN, number -> ears.change(number, 1));
        Due.dueRange("other", 0, 2, Due.UNKNOWN, number -> ears.change(1, number));
        Due.due("only one house", Due.made("EH00").change(0, 0), Due.OUTSIDE);
        Due.due("only one house", Due.made("EH00").change(0, 1), Due.UNKNOWN);
    }

    private static void plate() {
        Due.sentence("PLATE: THINGS that the next one knows then (bits). UNKNOWN; STATE: there is no next one.");
        DripEars ears = Due.made(THREE);
        Due.hours(ears, 3);
        Due.due("of the last but one", ears.plate(1), 6);
        Due.due("of the first", ears.plate(0), 3);
        Due.due("of the last", ears.plate(2), Due.STATE);
        Due.due("acts", ears.count(10), 5);
        Due.dueRange("house", 0, 2, Due.UNKNOWN, ears::plate);
        Due.due("of the only one", Due.made("EH00").plate(0), Due.STATE);
        DripEars five = Due.made("EH00H00H00H00H00");
        Due.due("of the fourth of five", five.plate(3), 0);
        Due.due("of the fifth of five", five.plate(4), Due.STATE);
    }

    private static void undo() {
        Due.sentence("The last ACT is undone: how many are left. STATE: there is none.");
        DripEars ears = Due.made(TWO);
        Due.due("none yet", ears.undo(), Due.STATE);
        ears.hour();
        Due.due("none is left", ears.undo(), 0);
        Due.due("there is none", ears.undo(), Due.STATE);
        Due.due("the hour", ears.count(4), 0);
        Due.hours(ears, 14);
        for (int left = 13; left >= 0; left--) {
            Due.due("undo of 14", ears.undo(), left);
        }
        Due.due("there is none", ears.undo(), Due.STATE);
        Due.due("all of 14", ears.count(4), 0);
        Due.hours(ears, 15);
        for (int left = 13; left >= 0; left--) {
            Due.due("undo of 15", ears.undo(), left);
        }
        Due.due("there is none", ears.undo(), Due.STATE);
        Due.due("the first of 15 is forgotten", ears.count(4), 1);
        ears.lower(1);
        ears.lower(1);
        Due.due("one is left", ears.undo(), 1);
        Due.due("voice", ears.house(1, 1), -1);
        ears.raise(0);
        Due.due("one is left", ears.undo(), 1);
        Due.due("none is left", ears.undo(), 0);
        Due.due("voice", ears.house(1, 1), 0);
    }

    private static void later() {
        Due.sentence("IN n HOURS, as bits. UNKNOWN; OUTSIDE: n.");
        DripEars ears = Due.made(THREE);
        Due.dueRange("house", 0, 2, Due.UNKNOWN, number -> ears.later(number, 30));
        Due.dueRange("n", 0, 30, Due.OUTSIDE, number -> ears.later(2, number));
        int[] due = {0, 0, 0, 4};
        for (int n = 0; n < due.length; n++) {
            Due.due("in " + n, ears.later(2, n), due[n]);
        }
    }

    private static void first() {
        Due.sentence("`int first(int house, int thing)`: FIRST; NONE. UNKNOWN: house, thing.");
        DripEars ears = Due.made(THREE);
        Due.dueRange("house", 0, 2, Due.UNKNOWN, number -> ears.first(number, 0));
        Due.dueRange("thing", 0, 5, Due.UNKNOWN, number -> ears.first(0, number));
        Due.due("both", ears.first(3, 6), Due.UNKNOWN);
        Due.due("in three", ears.first(2, 2), 3);
        Due.due("never", ears.first(2, 1), Due.NONE);
        Due.hours(ears, 3);
        Due.due("now", ears.first(2, 2), 0);
    }

    private static void keeps() {
        Due.sentence("KEEPS: how many (what = 0), the figures (1); NONE. UNKNOWN: house, thing; OUTSIDE: n, what.");
        DripEars ears = Due.made(TWO);
        Due.dueRange("house", 0, 1, Due.UNKNOWN, number -> ears.keeps(number, 5, 1, 0));
        Due.dueRange("thing", 0, 5, Due.UNKNOWN, number -> ears.keeps(0, number, 1, 0));
        Due.dueRange("n", 1, 12, Due.OUTSIDE, number -> ears.keeps(0, 0, number, 0));
        Due.dueRange("what", 0, 1, Due.OUTSIDE, number -> ears.keeps(0, 0, 1, number));
        Due.due("how many", ears.keeps(0, 0, 1, 0), 2);
        Due.due("figures", ears.keeps(0, 0, 1, 1), 20);
        ears.hour();
        Due.due("none, how many", ears.keeps(0, 0, 1, 0), Due.NONE);
        Due.due("none, figures", ears.keeps(0, 0, 1, 1), Due.NONE);
    }

    private static void tells() {
        Due.sentence("TELLS: how many (what = 0), which (1); NONE. OUTSIDE: things (0 to 63), what.");
        DripEars ears = Due.made(THREE);
        Due.hours(ears, 3);
        Due.dueRange("things", 0, 63, Due.OUTSIDE, number -> ears.tells(number, 0));
        Due.dueRange("what", 0, 1, Due.OUTSIDE, number -> ears.tells(1, number));
        Due.due("how many", ears.tells(5, 0), 2);
        Due.due("which", ears.tells(5, 1), 5);
        Due.due("all that there are, how many", ears.tells(63, 0), Due.NONE);
        Due.due("all that there are, which", ears.tells(63, 1), Due.NONE);
        DripEars knowing = Due.made("EH30S000S010S020S030S040S050R1");
        Due.hours(knowing, 6);
        Due.due("one knows all, how many", knowing.tells(63, 0), 1);
        Due.due("one knows all, which", knowing.tells(63, 1), 1);
    }

    private static void judge() {
        Due.sentence("JUDGED; NONE. OUTSIDE: n, row (0 or more, 3 n figures at most).");
        DripEars ears = Due.made(TWO);
        Due.dueRange("n", 1, 4, Due.OUTSIDE, number -> ears.judge(number, 0));
        long most = 1;
        for (int n = 1; n <= 4; n++) {
            most *= 1000;
            Due.due("row 0, n " + n, ears.judge(n, 0), Due.NONE);
            Due.due("row -1, n " + n, ears.judge(n, -1), Due.OUTSIDE);
            Due.due("row -" + most, ears.judge(n, -most), Due.OUTSIDE);
            Due.due("row " + (most - 1), ears.judge(n, most - 1), 0);
            Due.due("row " + most, ears.judge(n, most), Due.OUTSIDE);
            Due.due("row " + (most + 1), ears.judge(n, most + 1), Due.OUTSIDE);
            Due.due("row", ears.judge(n, Long.MAX_VALUE), Due.OUTSIDE);
            Due.due("row", ears.judge(n, Long.MIN_VALUE), Due.OUTSIDE);
            // Of these the lower 32 bits are 0.
            Due.due("row", ears.judge(n, 1L << 40), Due.OUTSIDE);
            Due.due("row", ears.judge(n, 1L << 62), Due.OUTSIDE);
        }
        Due.due("the last place", ears.judge(4, 700), 3);
        Due.due("none", ears.judge(4, 100200301400L), Due.NONE);
    }

    private static void hear() {
        Due.sentence("HEARD: how many there are. OUTSIDE: loud, rain, heard (0, 1); FULL: 6.");
        DripEars ears = new DripEars();
        Due.dueRange("loud", 0, 9, Due.OUTSIDE, number -> ears.hear(number, 0, 0));
        Due.dueRange("rain", 0, 9, Due.OUTSIDE, number -> ears.hear(0, number, 0));
        Due.dueRange("heard", 0, 1, Due.OUTSIDE, number -> ears.hear(0, 0, number));
        Due.due("a seventh", ears.hear(0, 0, 0), Due.FULL);
        ears.unhear();
        for (int size = 1; size <= 6; size++) {
            Due.due("hear", ears.hear(9, 9, 1), size);
        }
        Due.due("a seventh", ears.hear(9, 9, 1), Due.FULL);
    }

    private static void unhear() {
        Due.sentence("Nothing is HEARD: how much there was.");
        DripEars ears = new DripEars();
        Due.due("nothing", ears.unhear(), 0);
        for (int size = 1; size <= 6; size++) {
            for (int i = 0; i < size; i++) {
                ears.hear(0, 9, 1);
            }
            Due.due("unhear", ears.unhear(), size);
            Due.due("nothing", ears.count(11), 0);
            Due.due("all fit", ears.ears(0), 30);
        }
    }

    private static void ears() {
        Due.sentence("EARS: how many (what = 0), the first (1); NONE. OUTSIDE.");
        DripEars ears = new DripEars();
        Due.dueRange("what", 0, 1, Due.OUTSIDE, ears::ears);
        Due.due("how many", ears.ears(0), 30);
        Due.due("the first", ears.ears(1), 0);
        ears.hear(0, 9, 1);
        Due.due("none, how many", ears.ears(0), 0);
        Due.due("none, the first", ears.ears(1), Due.NONE);
    }

    private static void share() {
        Due.sentence("`int share(int house, boolean upper)`: SHARE. UNKNOWN.");
        DripEars ears = Due.made(THREE);
        Due.dueRange("house, above", 0, 2, Due.UNKNOWN, number -> ears.share(number, true));
        Due.dueRange("house, below", 0, 2, Due.UNKNOWN, number -> ears.share(number, false));
        Due.dueShare(ears, 2, 0, 1);
        Due.hours(ears, 3);
        Due.dueShare(ears, 2, 1, 1);
    }

    private static void rests() {
        Due.sentence("RESTS: how many (what = 0), the first (1); NONE. UNKNOWN: both; OUTSIDE: both are one, what.");
        DripEars ears = Due.made(THREE);
        Due.dueRange("one", 0, 2, Due.UNKNOWN, number -> ears.rests(number, 1, 0));
        Due.dueRange("other", 0, 2, Due.UNKNOWN, number -> ears.rests(1, number, 0));
        Due.dueRange("what", 0, 1, Due.OUTSIDE, number -> ears.rests(0, 2, number));
        for (int house = 0; house < 3; house++) {
            Due.due("both are " + house, ears.rests(house, house, 0), Due.OUTSIDE);
        }
        Due.due("how many", ears.rests(0, 2, 0), 1);
        Due.due("the first", ears.rests(2, 0, 1), 0);
    }

    private static void dries() {
        Due.sentence("`int dries(int house, int thing, int n, int x, boolean upper)`: DRIES. UNKNOWN: house, thing; OUTSIDE: n, x.");
        DripEars ears = Due.made(THREE);
        for (boolean upper : new boolean[] {true, false}) {
            Due.dueRange("house", 0, 2, Due.UNKNOWN, number -> ears.dries(number, 0, 6, 10, upper));
            Due.dueRange("thing", 0, 5, Due.UNKNOWN, number -> ears.dries(0, number, 1, 0, upper));
            Due.dueRange("n", 1, 6, Due.OUTSIDE, number -> ears.dries(0, 0, number, 5, upper));
            Due.dueRange("x", 0, 10, Due.OUTSIDE, number -> ears.dries(0, 0, 1, number, upper));
        }
    }

    private static void seed() {
        Due.sentence("THE SEED is v: what it was.");
        DripEars ears = new DripEars();
        long was = 0;
        for (long v : new long[] {0, 1, -1, Long.MAX_VALUE, Long.MIN_VALUE, 1L << 32, 0}) {
            Due.due("seed " + v, ears.seed(v), was);
            was = v;
        }
    }

    private static void years() {
        Due.sentence("`int years(int m)`: YEARS. OUTSIDE: m.");
        DripEars ears = Due.made(THREE);
        Due.dueRange("m", 1, 30, Due.OUTSIDE, ears::years);
    }

    private static void keep() {
        Due.sentence("They are kept: THE HOUR. UNKNOWN.");
        DripEars ears = Due.made(TWO);
        Due.dueRange("slot", 0, 1, Due.UNKNOWN, ears::keep);
        Due.due("the first hour", ears.keep(0), 0);
        Due.hours(ears, 20);
        Due.due("a late hour", ears.keep(0), 20);
        Due.due("what was kept is kept over", ears.again(0), 20);
        Due.due("the other slot is not", ears.again(1), 0);
        Due.due("keep where there is no house", new DripEars().keep(1), 0);
    }

    private static void again() {
        Due.sentence("They are as they were kept: THE HOUR. UNKNOWN; STATE: none were kept.");
        DripEars ears = Due.made(TWO);
        Due.dueRange("slot", 0, 1, Due.UNKNOWN, ears::again);
        Due.due("none in 0", ears.again(0), Due.STATE);
        Due.due("none in 1", ears.again(1), Due.STATE);
        ears.hour();
        ears.keep(1);
        Due.due("none in 0", ears.again(0), Due.STATE);
        Due.due("the row stays", ears.count(10), 1);
        ears.hour();
        Due.due("as they were kept", ears.again(1), 1);
        Due.due("the row is empty", ears.count(10), 0);
        ears.hour();
        Due.due("once more", ears.again(1), 1);
        Due.due("known as it was", ears.count(8), 1);
        ears.lane();
        Due.due("gone by a lane", ears.again(1), Due.STATE);
    }

    private static void count() {
        Due.sentence("0 letters of THE TEXT, 1 HOUSES, 2 SAYINGS, 3 RAINS, 4 THE HOUR, 5 the RAIN of THE HOUR, 6 DRY, "
            + "7 1 if they are STRAYED, 8 THINGS that any HEARER knows (bits), 9 HOUSES at which the SAYING of THE HOUR would be "
            + "HEARD now (bits), 10 ACTS in the row, 11 HEARD. OUTSIDE.");
        DripEars ears = Due.made("EH30H30H30H30H30S059S159S259S359S459S459S459S059R0R0R0R9");
        Due.dueRange("what", 0, 11, Due.OUTSIDE, ears::count);
        int[] fresh = {56, 5, 8, 4, 0, 0, 0, 0, 0, 31, 0, 0};
        dueCounts(ears, fresh);
        Due.hours(ears, 3);
        ears.hear(0, 0, 0);
        int[] strayed = {56, 5, 8, 4, 3, 9, 3, 1, 32, 0, 3, 1};
        dueCounts(ears, strayed);
        Due.hours(ears, 12);
        for (int i = 0; i < 5; i++) {
            ears.hear(0, 0, 0);
        }
        Due.writeOn(ears, "12345678");
        int[] full = {64, 5, 8, 4, 15, 9, 3, 1, 32, 0, 14, 6};
        dueCounts(ears, full);
        DripEars dry = Due.made("E");
        Due.hours(dry, 12);
        int[] empty = {1, 0, 0, 0, 12, 0, 9, 1, 0, 0, 12, 0};
        dueCounts(dry, empty);
    }

    private static void dueCounts(DripEars ears, int[] want) {
        for (int what = 0; what < want.length; what++) {
            Due.due("count " + what, ears.count(what), want[what]);
        }
    }
}
