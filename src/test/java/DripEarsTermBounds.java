import java.io.IOException;

/** The boundary cases of the document's terms up to "==== 2", a test for each sentence that names one. */
public final class DripEarsTermBounds {
    private static final String FIVE_HOUSES = "EH00H00H00H00H00";
    private static final String EIGHT_SAYINGS = "S000S000S000S000S000S000S000S000";
    private static final String FOUR_RAINS = "R0R0R0R0";
    private static final String LONGEST = FIVE_HOUSES + EIGHT_SAYINGS + FOUR_RAINS;

    public static void main(String[] args) throws IOException {
        mostCalls();
        refusals();
        text();
        parts();
        faults();
        newLane();
        hearing();
        hourBySayingAndRain();
        hourByDryness();
        acts();
        rowOfActs();
        Due.end();
    }

    private static void mostCalls() {
        Due.sentence("An object is used for at most 512 calls after it has been made");
        DripEars ears = Due.made("EH00S002R0R1");
        Due.hours(ears, 496);
        Due.due("the hour", ears.count(4), 496);
        Due.due("the rain of the hour", ears.count(5), 0);
        Due.due("the 512th call: acts", ears.count(10), 14);
    }

    private static void refusals() {
        firstOfRefusals();
        noSuch();
        refusedChangesNothing();
        Due.sentence("NONE is -9.");
        Due.due("NONE", DripEars.NONE, -9);
        Due.due("never known", Due.made("EH00").first(0, 0), -9);
        Due.sentence("UNKNOWN = -1, OUTSIDE = -2, STATE = -3, FULL = -4, NONE = -9;");
        Due.due("UNKNOWN", DripEars.UNKNOWN, -1);
        Due.due("OUTSIDE", DripEars.OUTSIDE, -2);
        Due.due("STATE", DripEars.STATE, -3);
        Due.due("FULL", DripEars.FULL, -4);
        fractions();
    }

    private static void firstOfRefusals() {
        Due.sentence("REFUSALS, of several the first that a call names");
        DripEars ears = Due.atItsLimits();
        Due.due("write, OUTSIDE and FULL", ears.write(256), Due.OUTSIDE);
        Due.due("write, OUTSIDE and FULL", ears.write(-1), Due.OUTSIDE);
        Due.due("house, UNKNOWN and OUTSIDE", ears.house(2, 6), Due.UNKNOWN);
        Due.due("saying, UNKNOWN and OUTSIDE", ears.saying(2, 3), Due.UNKNOWN);
        Due.due("change, UNKNOWN and OUTSIDE", ears.change(2, 2), Due.UNKNOWN);
        Due.due("change, UNKNOWN and OUTSIDE", ears.change(-1, -1), Due.UNKNOWN);
        Due.due("later, UNKNOWN and OUTSIDE", ears.later(2, 31), Due.UNKNOWN);
        Due.due("keeps, UNKNOWN (house) and OUTSIDE", ears.keeps(2, 0, 13, 2), Due.UNKNOWN);
        Due.due("keeps, UNKNOWN (thing) and OUTSIDE", ears.keeps(0, 6, 0, -1), Due.UNKNOWN);
        Due.due("hear, OUTSIDE and FULL", ears.hear(10, 0, 0), Due.OUTSIDE);
        Due.due("hear, OUTSIDE and FULL", ears.hear(0, 10, 0), Due.OUTSIDE);
        Due.due("hear, OUTSIDE and FULL", ears.hear(0, 0, 2), Due.OUTSIDE);
        Due.due("rests, UNKNOWN and OUTSIDE: both are one", ears.rests(2, 2, 0), Due.UNKNOWN);
        Due.due("rests, UNKNOWN (one) and OUTSIDE", ears.rests(2, 0, 2), Due.UNKNOWN);
        Due.due("rests, UNKNOWN (other) and OUTSIDE", ears.rests(0, -1, -1), Due.UNKNOWN);
        Due.due("dries, UNKNOWN (house) and OUTSIDE", ears.dries(2, 0, 7, 11, true), Due.UNKNOWN);
        Due.due("dries, UNKNOWN (thing) and OUTSIDE", ears.dries(0, 6, 0, -1, false), Due.UNKNOWN);
    }

    private static void noSuch() {
        Due.sentence("UNKNOWN (there is no such HOUSE, THING (0 to 5), SLOT)");
        DripEars ears = Due.made("EH00H00");
        Due.dueRange("house", 0, 1, Due.UNKNOWN, number -> ears.house(number, 0));
        Due.dueRange("thing", 0, 5, Due.UNKNOWN, number -> ears.first(0, number));
        Due.dueRange("slot", 0, 1, Due.UNKNOWN, number -> ears.keep(number));
        DripEars empty = Due.made("E");
        Due.due("a house where there is none", empty.house(0, 0), Due.UNKNOWN);
    }

    private static void refusedChangesNothing() {
        Due.sentence("What is refused changes nothing.");
        String want = Due.wholePicture(Due.atItsLimits());
        refusedOfTheLane(want);
        refusedActs(want);
        refusedQuestions(want);
        DripEars empty = new DripEars();
        String ahead = Due.looks(empty);
        Due.due("undo", empty.undo(), Due.STATE);
        Due.due("lane", empty.lane(), Due.STATE);
        Due.due("again", empty.again(0), Due.STATE);
        Due.duePicture("refusals of a new object", Due.looks(empty), ahead);
    }

    private static void dueRefused(String name, int refusal, String want, Due.Call call) {
        DripEars ears = Due.atItsLimits();
        Due.due(name, call.on(ears), refusal);
        Due.duePicture(name, Due.wholePicture(ears), want);
    }

    private static void refusedOfTheLane(String want) {
        dueRefused("write -1", Due.OUTSIDE, want, ears -> ears.write(-1));
        dueRefused("write 256", Due.OUTSIDE, want, ears -> ears.write(256));
        dueRefused("write a 65th", Due.FULL, want, ears -> ears.write('E'));
        dueRefused("lane", Due.STATE, want, ears -> ears.lane());
        dueRefused("house", Due.UNKNOWN, want, ears -> ears.house(2, 0));
        dueRefused("house, what", Due.OUTSIDE, want, ears -> ears.house(0, 6));
        dueRefused("saying", Due.UNKNOWN, want, ears -> ears.saying(2, 0));
        dueRefused("saying, what", Due.OUTSIDE, want, ears -> ears.saying(0, 3));
        dueRefused("count", Due.OUTSIDE, want, ears -> ears.count(12));
    }

    private static void refusedActs(String want) {
        dueRefused("lower", Due.UNKNOWN, want, ears -> ears.lower(2));
        dueRefused("lower at -3", Due.STATE, want, ears -> ears.lower(0));
        dueRefused("raise", Due.UNKNOWN, want, ears -> ears.raise(-1));
        dueRefused("raise at 3", Due.STATE, want, ears -> ears.raise(1));
        dueRefused("change, one", Due.UNKNOWN, want, ears -> ears.change(2, 0));
        dueRefused("change, other", Due.UNKNOWN, want, ears -> ears.change(0, 2));
        dueRefused("change with himself", Due.OUTSIDE, want, ears -> ears.change(1, 1));
        dueRefused("plate", Due.UNKNOWN, want, ears -> ears.plate(2));
        dueRefused("plate of the last", Due.STATE, want, ears -> ears.plate(1));
        dueRefused("keep", Due.UNKNOWN, want, ears -> ears.keep(2));
        dueRefused("again", Due.UNKNOWN, want, ears -> ears.again(-1));
        dueRefused("again of none", Due.STATE, want, ears -> ears.again(1));
    }

    private static void refusedQuestions(String want) {
        dueRefused("later", Due.OUTSIDE, want, ears -> ears.later(0, 31));
        dueRefused("first", Due.UNKNOWN, want, ears -> ears.first(0, 6));
        dueRefused("keeps", Due.OUTSIDE, want, ears -> ears.keeps(0, 0, 13, 0));
        dueRefused("tells", Due.OUTSIDE, want, ears -> ears.tells(64, 0));
        dueRefused("judge, n", Due.OUTSIDE, want, ears -> ears.judge(5, 0));
        dueRefused("judge, row", Due.OUTSIDE, want, ears -> ears.judge(1, 1000));
        dueRefused("hear, loud", Due.OUTSIDE, want, ears -> ears.hear(10, 0, 0));
        dueRefused("hear a seventh", Due.FULL, want, ears -> ears.hear(0, 0, 1));
        dueRefused("ears", Due.OUTSIDE, want, ears -> ears.ears(2));
        dueRefused("share", Due.UNKNOWN, want, ears -> ears.share(2, true));
        dueRefused("rests", Due.OUTSIDE, want, ears -> ears.rests(0, 0, 0));
        dueRefused("dries", Due.OUTSIDE, want, ears -> ears.dries(0, 0, 7, 0, true));
        dueRefused("years 0", Due.OUTSIDE, want, ears -> ears.years(0));
        dueRefused("years 31", Due.OUTSIDE, want, ears -> ears.years(31));
    }

    private static void fractions() {
        Due.sentence("FRACTIONS are told above (upper = true; below 0, if they are), below (1 and more), in least terms");
        DripEars ears = Due.made("EH00H00S001S011R0R1R1");
        Due.dueShare(ears, 0, 0, 1);
        Due.hours(ears, 4);
        // Thing 0 in the first hour, thing 1 in the fourth: two things that he alone knows, then each shared by both.
        Due.dueShare(ears, 0, 2, 1);
        ears.plate(0);
        Due.dueShare(ears, 0, 1, 1);
        DripEars dry = Due.made("EH08S009R1");
        Due.dueDries(dry, new int[] {0, 0, 1, 0}, 0, 1);
        Due.dueDries(dry, new int[] {0, 0, 1, 2}, 1, 5);
        Due.dueDries(dry, new int[] {0, 0, 1, 10}, 1, 1);
        Due.sentence("refusals of them are told likewise");
        for (boolean upper : new boolean[] {true, false}) {
            Due.due("share", ears.share(2, upper), Due.UNKNOWN);
            Due.due("dries, house", ears.dries(2, 0, 1, 1, upper), Due.UNKNOWN);
            Due.due("dries, thing", ears.dries(0, 6, 1, 1, upper), Due.UNKNOWN);
            Due.due("dries, n", ears.dries(0, 0, 7, 1, upper), Due.OUTSIDE);
            Due.due("dries, x", ears.dries(0, 0, 1, 11, upper), Due.OUTSIDE);
        }
    }

    private static void text() {
        Due.sentence("THINGS are 0 to 5.");
        for (int thing = 0; thing < 6; thing++) {
            DripEars ears = Due.made("EH00S0" + thing + "2R1");
            ears.hour();
            Due.due("thing " + thing + " as bits", ears.house(0, 3), 1 << thing);
        }
        Due.sentence("THE TEXT is letters (64 at most).");
        DripEars ears = new DripEars();
        for (int length = 1; length <= 64; length++) {
            Due.due("write", ears.write('E'), length);
        }
        Due.due("write a 65th", ears.write('E'), Due.FULL);
        Due.due("letters", ears.count(0), 64);
        Due.sentence("A LANE is a TEXT: E, then PARTS, none or more");
        Due.due("lane of E alone", Due.written("E").lane(), 0);
        Due.due("lane of nothing", Due.written("").lane(), Due.STATE);
        Due.due("lane of parts without E", Due.written("H00").lane(), Due.STATE);
        Due.due("lane of two E", Due.written("EE").lane(), Due.STATE);
        Due.due("lane of many parts", Due.written("ER1H00R2H11S019S105").lane(), 222);
        dueLetters("", 'E', 'E', Due.NONE);
        Due.sentence("HOUSES (5 at most), SAYINGS (8 at most), RAINS (4 at most)");
        Due.due("lane of the most", Due.written(LONGEST).lane(), 584);
        Due.dueFault(FIVE_HOUSES, Due.NONE);
        Due.dueFault(FIVE_HOUSES + "H", 16);
        Due.dueFault("EH00" + EIGHT_SAYINGS, Due.NONE);
        Due.dueFault("EH00" + EIGHT_SAYINGS + "S", 36);
        Due.dueFault("E" + FOUR_RAINS, Due.NONE);
        Due.dueFault("E" + FOUR_RAINS + "R", 9);
        Due.dueFault(FIVE_HOUSES + "S", 17);
        Due.dueFault(FIVE_HOUSES + "R", 17);
        Due.dueFault("EH00" + EIGHT_SAYINGS + "H", 37);
        Due.dueFault("EH00" + EIGHT_SAYINGS + "R", 37);
        Due.dueFault("E" + FOUR_RAINS + "H", 10);
        numberedAsTold();
    }

    private static void numberedAsTold() {
        Due.sentence("are numbered as they are told, each kind for itself");
        DripEars ears = Due.made("ER7H01S059R0H32S145R3");
        Due.due("wall of house 0", ears.house(0, 0), 1);
        Due.due("wall of house 1", ears.house(1, 0), 2);
        Due.due("kind at house 1", ears.house(1, 2), 3);
        Due.due("loud of saying 0", ears.saying(0, 2), 9);
        Due.due("house of saying 1", ears.saying(1, 0), 1);
        int[] rains = {7, 0, 3, 7};
        for (int rain : rains) {
            Due.due("the rain of the hour", ears.count(5), rain);
            ears.hour();
        }
    }

    /** Behind some letters only those from low to high go on; the fault is then as told, else at that letter. */
    private static void dueLetters(String ahead, char low, char high, int then) {
        for (char letter = 0; letter < 256; letter++) {
            boolean goesOn = letter >= low && letter <= high;
            Due.dueFault(ahead + letter, goesOn ? then : ahead.length());
        }
    }

    private static void parts() {
        Due.sentence("Hkw      a HOUSE whose HEARER is of KIND k: 0 PLAIN, 1 KEEN, 2 DULL, 3 MARRIED; its WALL is w (0 to 9)");
        dueLetters("EH", '0', '3', 3);
        dueLetters("EH3", '0', '9', Due.NONE);
        Due.due("kind 0", Due.made("EH09").house(0, 2), 0);
        Due.due("kind 3", Due.made("EH30").house(0, 2), 3);
        Due.due("wall 0", Due.made("EH30").house(0, 0), 0);
        Due.due("wall 9", Due.made("EH09").house(0, 0), 9);
        Due.sentence("Shtl     a SAYING: in HOUSE h (told ahead) THING t (0 to 5) is said, LOUD by l (0 to 9)");
        for (int houses = 1; houses <= 5; houses++) {
            String ahead = FIVE_HOUSES.substring(0, 1 + 3 * houses) + "S";
            dueLetters(ahead, '0', (char) ('0' + houses - 1), ahead.length() + 1);
        }
        dueLetters("EH00S0", '0', '5', 7);
        dueLetters("EH00S05", '0', '9', Due.NONE);
        Due.dueFault("ES", 1);
        Due.dueFault("ER0S", 3);
        Due.dueFault("EH00S1", 5);
        Due.dueFault("EH00H00S1", 9);
        Due.due("loud 0", Due.made("EH00S000").saying(0, 2), 0);
        Due.due("loud 9", Due.made("EH00S059").saying(0, 2), 9);
        Due.due("thing 5", Due.made("EH00S059").saying(0, 1), 5);
        Due.sentence("Rr       a RAIN of r (0 to 9)");
        dueLetters("ER", '0', '9', Due.NONE);
        Due.due("rain 0", Due.made("ER0").count(5), 0);
        Due.due("rain 9", Due.made("ER9").count(5), 9);
    }

    private static void faults() {
        Due.sentence("FAULT: the place of the first letter by which THE TEXT can be no LANE, whatever came behind it");
        String[] texts = {"X", "ES", "EH4", "EH0H", "EH00S1", "EH00S06", "EH00S00S", "ERR", "EH00E", "EH00X"};
        int[] faults = {0, 1, 2, 3, 5, 6, 7, 2, 4, 4};
        for (int i = 0; i < texts.length; i++) {
            for (String behind : new String[] {"", "E", "H00", "S000", "R0", "0", "00", "000", "X"}) {
                Due.dueFault(texts[i] + behind, faults[i]);
            }
        }
        for (char letter = 0; letter < 256; letter++) {
            boolean isPart = letter == 'H' || letter == 'R' || letter == 'S';
            Due.dueFault("EH00" + letter, isPart ? 5 : 4);
            Due.dueFault("E" + letter, isPart && letter != 'S' ? 2 : 1);
        }
        Due.sentence("(its length set aside)");
        Due.dueFault(LONGEST, Due.NONE);
        for (char letter : new char[] {'E', 'H', 'S', 'R', '0'}) {
            Due.dueFault(LONGEST + letter, 56);
            Due.dueFault(LONGEST + String.valueOf(letter).repeat(8), 56);
        }
        Due.dueFault("E".repeat(64), 1);
        Due.dueFault("X".repeat(64), 0);
        Due.sentence("its length, if it is only not at its end; NONE: none");
        String lane = "EH19S059R9";
        int[] prefixes = {0, Due.NONE, 2, 3, Due.NONE, 5, 6, 7, Due.NONE, 9, Due.NONE};
        DripEars growing = new DripEars();
        for (int length = 0; length <= lane.length(); length++) {
            Due.dueFault(lane.substring(0, length), prefixes[length]);
            Due.due("fault of one text letter by letter, " + length, growing.fault(), prefixes[length]);
            Due.writeOn(growing, lane.substring(length, Math.min(length + 1, lane.length())));
        }
        growing.write('S');
        Due.due("fault of a part begun", growing.fault(), 11);
        growing.wipe();
        Due.due("fault of nothing", growing.fault(), 0);
        growing.write('E');
        Due.due("fault of a text anew", growing.fault(), Due.NONE);
        Due.dueFault(LONGEST.substring(0, 55), 55);
    }

    private static void newLane() {
        Due.sentence("At first there is no HOUSE.");
        Due.due("houses", new DripEars().count(1), 0);
        Due.due("house 0", new DripEars().house(0, 0), Due.UNKNOWN);
        Due.sentence("When THE LANE is made anew, each HEARER is at his HOUSE and knows nothing, VOICES are 0, "
            + "THE HOUR is 0, nobody is STRAYED, DRY is 0.");
        String text = "EH30H29S005";
        DripEars ears = Due.made(text);
        String fresh = Due.looks(ears);
        Due.hours(ears, 4);
        ears.lower(0);
        ears.raise(1);
        ears.change(0, 1);
        Due.due("strayed", ears.count(7), 1);
        Due.due("lane", ears.lane(), 210);
        Due.duePicture("the same text is the lane", Due.looks(ears), fresh);
        Due.due("dry", ears.count(6), 0);
        Due.due("strayed", ears.count(7), 0);
        Due.due("the hour", ears.count(4), 0);
        Due.due("voice of 0", ears.house(0, 1), 0);
        Due.due("voice of 1", ears.house(1, 1), 0);
        Due.due("at house 0", ears.house(0, 4), 0);
        Due.due("at house 1", ears.house(1, 4), 1);
        Due.due("known", ears.count(8), 0);
        Due.due("they hear: 5 > 0, 5 - 2 > 2", ears.hour(), 2);
        fewerAndMoreParts();
    }

    /** Nothing of a longer lane is left in a shorter one, nor the other way round. */
    private static void fewerAndMoreParts() {
        DripEars ears = Due.made("EH39H39H39H39H39S459S459R9R9");
        Due.lowered(ears, 4, 2);
        ears.hour();
        ears.wipe();
        Due.writeOn(ears, "EH00");
        Due.due("a shorter lane", ears.lane(), 100);
        Due.due("no house 1", ears.house(1, 0), Due.UNKNOWN);
        Due.due("no saying", ears.saying(0, 0), Due.UNKNOWN);
        Due.due("nothing is said", ears.count(9), 0);
        Due.due("no rain", ears.count(5), 0);
        ears.wipe();
        Due.writeOn(ears, "EH00H00H00H00H00");
        Due.due("a longer lane", ears.lane(), 500);
        Due.due("voice of 4", ears.house(4, 1), 0);
        Due.due("known at 4", ears.house(4, 3), 0);
        Due.due("who is at 4", ears.house(4, 4), 4);
        Due.due("kind at 4", ears.house(4, 2), 0);
    }

    private static void hearing() {
        Due.sentence("EAR of a HEARER: PLAIN, MARRIED 0, KEEN 2, DULL less 2.");
        // Next door to a wall of 3 it takes more than 5.
        int[] justNot = {5, 3, 7, 5};
        for (int kind = 0; kind < 4; kind++) {
            Due.due("kind " + kind, Due.made("EH03H" + kind + "0S00" + justNot[kind]).house(1, 5), 0);
            Due.due("kind " + kind, Due.made("EH03H" + kind + "0S00" + (justNot[kind] + 1)).house(1, 5), 1);
        }
        Due.sentence("HEARS a SAYING of HOUSE j by a RAIN of r, if LOUD, VOICE of HOUSE j and his EAR together are more than "
            + "WALL of HOUSE j, twice as many as HOUSES j is away from i, and r together");
        for (int speaker = 0; speaker < 5; speaker++) {
            for (int rain : new int[] {0, 1, 9}) {
                for (int wall : new int[] {0, 4, 9}) {
                    for (int loud = 0; loud <= 9; loud++) {
                        dueHearers(speaker, rain, wall, loud);
                    }
                }
            }
        }
        marriedAndStrayed();
    }

    /** Plain, keen, dull, plain, keen ones by a voice of 3 down to -3; the walls of the others are not asked. */
    private static void dueHearers(int speaker, int rain, int wall, int loud) {
        int[] kinds = {0, 1, 2, 0, 1};
        int[] ears = {0, 2, -2, 0, 2};
        StringBuilder text = new StringBuilder("E");
        for (int house = 0; house < 5; house++) {
            text.append('H').append(kinds[house]).append(house == speaker ? wall : 9 - wall);
        }
        text.append('S').append(speaker).append('0').append(loud).append('R').append(rain);
        DripEars made = Due.made(text.toString());
        Due.raised(made, speaker, 3);
        Due.raised(made, (speaker + 1) % 5, 2);
        for (int voice = 3; voice >= -3; voice--) {
            int want = 0;
            for (int house = 0; house < 5; house++) {
                int away = Math.abs(house - speaker);
                want |= loud + voice + ears[house] > wall + 2 * away + rain ? 1 << house : 0;
            }
            Due.due(text + " by voice " + voice, made.count(9), want);
            made.lower(speaker);
        }
    }

    private static void marriedAndStrayed() {
        Due.sentence("a MARRIED one who is at HOUSE j HEARS it in any case");
        DripEars ears = Due.made("EH39H09S000R9");
        Due.lowered(ears, 0, 3);
        Due.due("married at it", ears.house(0, 5), 1);
        Due.due("heard at", ears.count(9), 1);
        ears.change(0, 1);
        Due.due("plain at it", ears.house(0, 5), 0);
        Due.due("married beside it", ears.house(1, 5), 0);
        ears.change(0, 1);
        Due.due("back", ears.hour(), 1);
        DripEars moved = Due.made("EH39H09S100R9");
        Due.due("married, not at it", moved.count(9), 0);
        moved.change(0, 1);
        Due.due("married, come to it", moved.count(9), 2);
        Due.sentence("one who is STRAYED never.");
        DripEars strayed = Due.made("EH30H10S009R0R0R0R1");
        Due.hours(strayed, 2);
        Due.due("not strayed yet", strayed.count(9), 3);
        strayed.hour();
        Due.due("strayed, married at it", strayed.house(0, 5), 0);
        Due.due("strayed, keen beside it", strayed.house(1, 5), 0);
        Due.due("heard at", strayed.count(9), 0);
        strayed.hour();
        Due.due("back", strayed.count(9), 3);
    }

    private static void hourBySayingAndRain() {
        Due.sentence("the SAYING of THE HOUR (that which is left of THE HOUR by how many there are; none: nothing)");
        for (int sayings = 1; sayings <= 8; sayings++) {
            StringBuilder text = new StringBuilder("EH39H39H39H39H39");
            for (int i = 0; i < sayings; i++) {
                text.append('S').append(i % 5).append("00");
            }
            DripEars ears = Due.made(text.append("R1").toString());
            for (int hour = 0; hour < 20; hour++) {
                Due.due(text + " in hour " + hour, ears.count(9), 1 << hour % sayings % 5);
                ears.hour();
            }
        }
        DripEars silent = Due.made("EH30R1");
        Due.due("nothing is said", silent.count(9), 0);
        Due.due("nothing is said", silent.house(0, 5), 0);
        Due.due("nothing is said", silent.hour(), 0);
        Due.due("nothing is known", silent.count(8), 0);
        Due.sentence("is HEARD by the RAIN of THE HOUR (likewise; none: 0)");
        for (int rains = 1; rains <= 4; rains++) {
            DripEars ears = Due.made("ER6R7R8R9".substring(0, 1 + 2 * rains));
            for (int hour = 0; hour < 12; hour++) {
                Due.due(rains + " rains, hour " + hour, ears.count(5), 6 + hour % rains);
                ears.hour();
            }
        }
        DripEars dry = Due.made("EH00S001");
        Due.due("no rain", dry.count(5), 0);
        Due.due("heard by no rain", dry.count(9), 1);
        dry.hour();
        Due.due("dry by no rain", dry.count(6), 1);
        Due.sentence("who HEARS it knows that THING");
        DripEars ears = Due.made("EH00H00S042S152R1");
        Due.due("one", ears.hour(), 1);
        Due.due("who hears it", ears.house(0, 3), 16);
        Due.due("who does not", ears.house(1, 3), 0);
        Due.due("the other", ears.hour(), 1);
        Due.due("who does not", ears.house(0, 3), 16);
        Due.due("who hears it", ears.house(1, 3), 32);
    }

    private static void hourByDryness() {
        Due.sentence("DRY is 1 more, if that RAIN is 0 (9 at most), else 0.");
        DripEars dry = Due.made("EH00R0");
        for (int hour = 1; hour <= 14; hour++) {
            dry.hour();
            Due.due("dry behind " + hour, dry.count(6), Math.min(hour, 9));
        }
        DripEars wet = Due.made("EH00R0R0R1R9");
        int[] dryness = {1, 2, 0, 0, 1, 2, 0};
        for (int due : dryness) {
            wet.hour();
            Due.due("dry", wet.count(6), due);
        }
        Due.sentence("(c) If DRY is 3 or more, all HEARERS are STRAYED");
        DripEars ears = Due.made("EH00H00S009S119R0");
        for (int hour = 1; hour <= 12; hour++) {
            ears.hour();
            Due.due("strayed behind " + hour, ears.count(7), hour >= 3 ? 1 : 0);
            Due.due("heard behind " + hour, ears.count(9), hour >= 3 ? 0 : 3);
        }
        Due.sentence("and each knows all that any of them knows");
        DripEars telling = Due.made("EH30H09H09H09H39S010S420S000");
        Due.hours(telling, 2);
        Due.due("apart by 2: house 0", telling.house(0, 3), 2);
        Due.due("apart by 2: house 4", telling.house(4, 3), 4);
        Due.due("all know more", telling.hour(), 5);
        for (int house = 0; house < 5; house++) {
            Due.due("house " + house, telling.house(house, 3), 7);
        }
        Due.due("nobody more", telling.hour(), 0);
        Due.sentence("else none is STRAYED. THE HOUR is one more.");
        DripEars back = Due.made("EH30H09S050R0R0R0R1");
        Due.hours(back, 3);
        Due.due("strayed", back.count(7), 1);
        // They stray until this hour is over, so the married one hears nothing in it.
        Due.due("nobody hears", back.count(9), 0);
        Due.due("the hour", back.count(4), 3);
        back.hour();
        Due.due("back", back.count(7), 0);
        Due.due("the hour", back.count(4), 4);
        Due.due("he hears", back.count(9), 1);
    }

    private static void acts() {
        Due.sentence("LOWERED: a VOICE above -3 is 1 less. RAISED: one below 3 is 1 more.");
        DripEars ears = Due.made("EH00H00");
        for (int voice = 1; voice <= 3; voice++) {
            Due.due("raise", ears.raise(0), voice);
        }
        Due.due("raise at 3", ears.raise(0), Due.STATE);
        for (int voice = 2; voice >= -3; voice--) {
            Due.due("lower", ears.lower(0), voice);
            Due.due("voice", ears.house(0, 1), voice);
        }
        Due.due("lower at -3", ears.lower(0), Due.STATE);
        Due.due("voice", ears.house(0, 1), -3);
        Due.due("acts", ears.count(10), 9);
        Due.due("raise at -3", ears.raise(0), -2);
        Due.due("the other's voice", ears.house(1, 1), 0);
        Due.sentence("CHANGED: two HEARERS change HOUSES (what they know, their KINDS go with them).");
        DripEars changed = Due.made("EH31H09H02H14H25S000R9");
        changed.hour();
        changed.raise(0);
        Due.due("who comes to the first", changed.change(0, 4), 0);
        Due.due("kind at the first", changed.house(0, 2), 2);
        Due.due("kind at the last", changed.house(4, 2), 3);
        Due.due("known at the first", changed.house(0, 3), 0);
        Due.due("known at the last", changed.house(4, 3), 1);
        Due.due("told at, first", changed.house(0, 4), 4);
        Due.due("told at, last", changed.house(4, 4), 0);
        Due.due("wall of the first stays", changed.house(0, 0), 1);
        Due.due("voice of the first stays", changed.house(0, 1), 1);
        Due.due("voice of the last stays", changed.house(4, 1), 0);
        Due.due("who comes to the last but one", changed.change(3, 4), 1);
        Due.sentence("PLATE: a HEARER at a HOUSE tells all that he knows to him at the next one (1 more).");
        DripEars plates = Due.made("EH09H39H39H09S110S220R1");
        Due.hours(plates, 2);
        Due.due("all that both know", plates.plate(1), 6);
        Due.due("he still knows his", plates.house(1, 3), 2);
        Due.due("not the one ahead", plates.house(0, 3), 0);
        Due.due("not two on", plates.house(3, 3), 0);
        Due.due("to the last", plates.plate(2), 6);
        Due.due("the last has no next", plates.plate(3), Due.STATE);
        Due.due("nothing to tell", plates.plate(0), 2);
    }

    private static void rowOfActs() {
        Due.sentence("ACTS (HOURS, LOWERED, RAISED, CHANGED, PLATES) are a row (14 at most; of more the first one is forgotten)");
        DripEars ears = Due.made("EH30H09S000R1");
        // Behind ten of them each voice is as it was, so that none comes to its end.
        Due.Call[] acts = {DripEars::hour, e -> e.lower(0), e -> e.raise(1), e -> e.change(0, 1), e -> e.plate(0),
            DripEars::hour, e -> e.raise(0), e -> e.lower(1), e -> e.change(1, 0), e -> e.plate(0)};
        String[] ahead = new String[30];
        for (int done = 0; done < 30; done++) {
            ahead[done] = situation(ears);
            acts[done % 10].on(ears);
            Due.due("acts behind " + (done + 1), ears.count(10), Math.min(done + 1, 14));
        }
        for (int done = 29; done >= 16; done--) {
            Due.due("undo", ears.undo(), done - 16);
            Due.duePicture("undo to " + done, situation(ears), ahead[done]);
        }
        Due.due("the rest is forgotten", ears.undo(), Due.STATE);
        Due.duePicture("undo of none", situation(ears), ahead[16]);
        Due.sentence("the last one can be undone");
        for (int which = 0; which < acts.length; which++) {
            DripEars one = Due.made("EH30H09S000S010");
            Due.hours(one, 2);
            String before = Due.looks(one);
            acts[which].on(one);
            Due.due("acts", one.count(10), 3);
            Due.due("undo", one.undo(), 2);
            Due.duePicture("undo of act " + which, Due.looks(one), before);
        }
    }

    /** All that an act may change, in few calls: the row is long and an object has 512. */
    private static String situation(DripEars ears) {
        StringBuilder out = new StringBuilder();
        out.append(ears.count(4)).append(' ').append(ears.count(6));
        for (int house = 0; house < 2; house++) {
            out.append(' ').append(ears.house(house, 1)).append(' ').append(ears.house(house, 3));
            out.append(' ').append(ears.house(house, 4));
        }
        return out.toString();
    }
}
