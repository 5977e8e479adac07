import java.io.IOException;
import java.math.BigInteger;

/** The boundary cases of the document's terms "==== 2" and "==== 3", a test for each sentence that names one. */
public final class DripEarsAskBounds {
    /** Thing 3 is heard in the 28th hour and not ahead of it: its other sayings are drowned. */
    private static final String IN_28 = "EH08S000S000S000S000S000S000S039R9R9R9R0";
    /** Thing 3 is heard in the 12th hour and not ahead of it. */
    private static final String IN_12 = "EH08S000S000S000S000S039S000S000R9R9R9R0";
    /** The hearer at each house alone knows the thing of its number behind five hours. */
    private static final String EACH_HIS = "EH39H39H39H39H39S000S110S220S330S440R1";
    private static final long FACTOR = 6364136223846793005L;
    private static final long STEP = 1442695040888963407L;

    interface Maker {
        DripEars make();
    }

    public static void main(String[] args) throws IOException {
        nothingChanges();
        byTheirHouses();
        hoursToCome();
        keeps();
        tells();
        judged();
        heard();
        shares();
        rests();
        dries();
        years();
        slots();
        Due.end();
    }

    private static void nothingChanges() {
        Due.sentence("In what follows nothing is changed");
        Due.Call[] calls = {e -> e.later(0, 30), e -> e.first(0, 5), e -> e.keeps(0, 4, 12, 0), e -> e.keeps(1, 4, 12, 1),
            e -> e.tells(63, 1), e -> e.judge(4, 200301400L), e -> e.judge(4, 301102000505L), e -> e.ears(0), e -> e.ears(1),
            e -> e.share(0, true), e -> e.share(1, false), e -> e.rests(0, 1, 0), e -> e.rests(1, 0, 1),
            e -> e.dries(0, 0, 6, 5, true), e -> e.dries(1, 4, 6, 10, false)};
        String want = Due.wholePicture(Due.atItsLimits());
        for (int i = 0; i < calls.length; i++) {
            DripEars ears = Due.atItsLimits();
            calls[i].on(ears);
            Due.duePicture("question " + i, Due.wholePicture(ears), want);
        }
        Due.sentence("(Nothing changes but THE SEED.)");
        DripEars ears = Due.atItsLimits();
        ears.years(30);
        if (ears.seed(77) == 77) {
            Due.due("1 if the seed is another one behind years", 0, 1);
        }
        Due.duePicture("years", Due.wholePicture(ears), want);
    }

    private static void byTheirHouses() {
        Due.sentence("HEARERS are told by the HOUSES at which they are now.");
        DripEars ears = Due.made("EH30H09S050R1");
        ears.hour();
        ears.change(0, 1);
        Due.due("later, who went there", ears.later(1, 0), 32);
        Due.due("later, who came here", ears.later(0, 30), 0);
        Due.due("first, who went there", ears.first(1, 5), 0);
        Due.due("first, who came here", ears.first(0, 5), Due.NONE);
        Due.due("keeps, who went there", ears.keeps(1, 5, 1, 0), Due.NONE);
        Due.due("keeps, who came here", ears.keeps(0, 5, 1, 0), 0);
        Due.due("tells", ears.tells(32, 1), 2);
        Due.due("judge, who went there", ears.judge(1, 515), Due.NONE);
        Due.due("judge, who came here", ears.judge(1, 505), 0);
        Due.dueShare(ears, 1, 1, 1);
        Due.dueShare(ears, 0, 0, 1);
        Due.dueDries(ears, new int[] {1, 5, 1, 0}, 1, 1);
        Due.dueDries(ears, new int[] {0, 5, 1, 0}, 0, 1);
    }

    private static void hoursToCome() {
        Due.sentence("IN n HOURS (0 to 30): THINGS that a HEARER knows (bits).");
        DripEars ears = Due.made(IN_28);
        for (int n = 0; n <= 30; n++) {
            Due.due("later " + n, ears.later(0, n), n < 28 ? 0 : 8);
        }
        Due.due("later -1", ears.later(0, -1), Due.OUTSIDE);
        Due.due("later 31", ears.later(0, 31), Due.OUTSIDE);
        Due.hours(ears, 10);
        Due.due("from now on", ears.later(0, 17), 0);
        Due.due("from now on", ears.later(0, 18), 8);
        // On the common: what one heard in the first hour all know in the third.
        DripEars common = Due.made("EH30H09S050");
        Due.due("in 2", common.later(1, 2), 0);
        Due.due("in 3", common.later(1, 3), 32);
        Due.sentence("FIRST: in how many HOURS (0 to 30) he knows a THING; NONE.");
        DripEars first = Due.made(IN_28);
        for (int left = 28; left >= 0; left--) {
            Due.due("first behind " + (28 - left), first.first(0, 3), left);
            first.hour();
        }
        Due.due("known for long", first.first(0, 3), 0);
        // No FIRST is beyond 28: sayings and rains come round by then, and what was not heard is not heard later.
        Due.due("never", first.first(0, 0), Due.NONE);
        Due.due("not said", first.first(0, 5), Due.NONE);
        Due.due("on the common", common.first(1, 5), 3);
        // What is said while they stray is never known.
        Due.due("strayed by then", Due.made("EH30S050S050S050S000").first(0, 0), Due.NONE);
    }

    private static void keeps() {
        Due.sentence("KEEPS for a HEARER, a THING and n HOURS (1 to 12)");
        DripEars ears = Due.made(IN_12);
        for (int n = 1; n <= 12; n++) {
            Due.due("keeps in " + n, ears.keeps(0, 3, n, 0), n < 12 ? 0 : 1);
        }
        Due.due("n 0", ears.keeps(0, 3, 0, 0), Due.OUTSIDE);
        Due.due("n 13", ears.keeps(0, 3, 13, 0), Due.OUTSIDE);
        Due.due("in the first hour", Due.made("EH00S001").keeps(0, 0, 1, 0), 1);
        Due.sentence("of all ways to have VOICES LOWERED now (0 to 3 times each, as far as they go down)");
        dueKeeps("EH03S003", 0, 0);
        dueKeeps("EH03S004", 0, 1);
        dueKeeps("EH03S006", 0, 3);
        dueKeeps("EH03S007", 0, Due.NONE);
        dueKeeps("EH03S006", -1, 2);
        dueKeeps("EH02S006", -1, Due.NONE);
        dueKeeps("EH03S006", -2, 1);
        dueKeeps("EH02S006", -2, Due.NONE);
        dueKeeps("EH03S006", -3, 0);
        dueKeeps("EH02S006", -3, Due.NONE);
        dueKeeps("EH06S006", 3, 3);
        dueKeeps("EH05S006", 3, Due.NONE);
        figuresOfKeeps();
        Due.sentence("how many; the figures; NONE. TELLS");
        DripEars said = Due.made("EH30H09S050");
        Due.due("not said, how many", said.keeps(0, 0, 12, 0), 0);
        Due.due("not said, figures", said.keeps(0, 0, 12, 1), 0);
        Due.due("married, how many", said.keeps(0, 5, 1, 0), Due.NONE);
        Due.due("married, figures", said.keeps(0, 5, 1, 1), Due.NONE);
        Due.due("ahead of the common", said.keeps(1, 5, 2, 0), 0);
        Due.due("on the common", said.keeps(1, 5, 3, 0), Due.NONE);
        Due.hours(said, 3);
        Due.due("known now", said.keeps(1, 5, 1, 0), Due.NONE);
        Due.due("known now", said.keeps(1, 5, 1, 1), Due.NONE);
    }

    /** How often house 0, the only one, must be lowered from a voice in the first hour; figures are the same then. */
    private static void dueKeeps(String text, int voice, int want) {
        DripEars ears = Due.made(text);
        Due.raised(ears, 0, Math.max(0, voice));
        Due.lowered(ears, 0, Math.max(0, -voice));
        Due.due("keeps of " + text + " by voice " + voice, ears.keeps(0, 0, 1, 0), want);
        Due.due("figures of " + text + " by voice " + voice, ears.keeps(0, 0, 1, 1), want);
    }

    private static void figuresOfKeeps() {
        Due.sentence("that of fewest, by which he does not know it behind n HOURS; of like ones the least (figures, HOUSE by HOUSE)");
        // He at house 2 hears each house, 4 2 0 2 4 away twice told, until it is lowered by 3 2 1 0 3.
        DripEars five = Due.made("EH00H00H00H00H00S007S104S201S302S407R0R1");
        Due.due("how many", five.keeps(2, 0, 10, 0), 9);
        Due.due("figures", five.keeps(2, 0, 10, 1), 32103);
        Due.due("the first hour: house 0 alone", five.keeps(2, 0, 1, 1), 30000);
        Due.due("never at the last: 7 > 8", five.keeps(4, 0, 1, 1), 0);
        Due.due("another thing", five.keeps(2, 1, 12, 1), 0);
        Due.lowered(five, 0, 3);
        Due.due("house 0 is lowered", five.keeps(2, 0, 10, 1), 2103);
        // He at house 0 knows by the common what he at house 1 heard: house 1 is lowered, which is the last figure.
        DripEars common = Due.made("EH00H00S101");
        Due.due("ahead of the common", common.keeps(0, 0, 2, 1), 0);
        Due.due("on the common", common.keeps(0, 0, 3, 1), 1);
        // The same thing loud by 2 and by 3: the louder one tells how often, not both together.
        Due.due("not added up", Due.made("EH00S002S003R0R1R0").keeps(0, 0, 12, 0), 3);
    }

    private static void tells() {
        Due.sentence("TELLS for some THINGS (bits): the fewest HEARERS who together know all of these now");
        DripEars ears = Due.made(EACH_HIS);
        Due.due("none yet", ears.tells(1, 0), Due.NONE);
        Due.hours(ears, 5);
        Due.due("no things, how many", ears.tells(0, 0), 0);
        Due.due("no things, which", ears.tells(0, 1), 0);
        Due.due("all five, how many", ears.tells(31, 0), 5);
        Due.due("all five, which", ears.tells(31, 1), 31);
        for (int thing = 0; thing < 5; thing++) {
            Due.due("one, how many", ears.tells(1 << thing, 0), 1);
            Due.due("one, which", ears.tells(1 << thing, 1), 1 << thing);
        }
        Due.due("the first and the last", ears.tells(17, 1), 17);
        // House 2 alone knows both, though houses 0 and 1 together are less as bits.
        DripEars alone = Due.made("EH39H39H39S000S110S200S210R1");
        Due.hours(alone, 4);
        Due.due("one of three, how many", alone.tells(3, 0), 1);
        Due.due("one of three, which", alone.tells(3, 1), 4);
        Due.sentence("of like ones the least (bits): how many; which; NONE");
        ears.plate(3);
        Due.due("3 alone or 4 alone", ears.tells(8, 1), 8);
        Due.due("4 alone, though 3 is less", ears.tells(24, 1), 16);
        ears.plate(0);
        Due.due("1 knows what 0 knows", ears.tells(3, 0), 1);
        Due.due("1 knows what 0 knows", ears.tells(3, 1), 2);
        ears.plate(1);
        Due.due("1 alone or 2 alone", ears.tells(3, 1), 2);
        Due.due("0 and 4, not 1 and 4", ears.tells(17, 1), 17);
        Due.due("2 and 4, not 0, 1, 2 and 4", ears.tells(31, 1), 20);
        Due.due("a thing that none knows, how many", ears.tells(32, 0), Due.NONE);
        Due.due("a thing that none knows, which", ears.tells(63, 1), Due.NONE);
        DripEars empty = Due.made("E");
        Due.due("no hearers, no things", empty.tells(0, 0), 0);
        Due.due("no hearers, no things", empty.tells(0, 1), 0);
        Due.due("no hearers", empty.tells(1, 0), Due.NONE);
    }

    private static void judged() {
        Due.sentence("JUDGED: n doings (1 to 4), told as three figures each");
        DripEars ears = Due.made("EH00H00");
        long[] ways = {600, 600600, 600600600, 600600600600L};
        long[] units = {1, 1000, 1000000, 1000000000};
        for (int n = 1; n <= 4; n++) {
            Due.due("all " + n + " are so", ears.judge(n, ways[n - 1]), Due.NONE);
            Due.due("three hours and less", ears.judge(n, 0), Due.NONE);
            for (int place = 0; place < n; place++) {
                long row = ways[n - 1] + 9 * units[n - 1 - place];
                Due.due("of " + n + " that at " + place, ears.judge(n, row), place);
            }
        }
        Due.due("the first of several", ears.judge(4, 600609609609L), 1);
        doings();
        knownAndDry();
    }

    private static void doings() {
        Due.sentence("(0, 0, 0: AN HOUR; 1, 0, a HOUSE: LOWERED; 2, 0, a HOUSE: RAISED; 3, two HOUSES: CHANGED; 4, 0, a HOUSE: PLATE;");
        DripEars ears = Due.made("EH39H09H09H09H09S000R1");
        Due.due("the last is lowered", ears.judge(1, 104), Due.NONE);
        Due.due("no such house is lowered", ears.judge(1, 105), 0);
        Due.due("the last is raised", ears.judge(1, 204), Due.NONE);
        Due.due("no such house is raised", ears.judge(1, 209), 0);
        Due.due("the last is changed", ears.judge(1, 304), Due.NONE);
        Due.due("the last is changed", ears.judge(1, 340), Due.NONE);
        Due.due("one with himself", ears.judge(1, 344), 0);
        Due.due("no such one", ears.judge(1, 350), 0);
        Due.due("no such other", ears.judge(1, 305), 0);
        Due.due("plate of the last but one", ears.judge(1, 403), Due.NONE);
        Due.due("plate of the last", ears.judge(1, 404), 0);
        Due.due("plate of no such house", ears.judge(1, 405), 0);
        Due.due("no such doing", ears.judge(1, 700), 0);
        Due.due("no such doing", ears.judge(1, 999), 0);
        // A figure that is told as 0 and is another one makes no such doing.
        for (long row : new long[] {1, 10, 9, 90, 110, 190, 210, 410, 610}) {
            Due.due("no such doing: " + row, ears.judge(1, row), 0);
        }
        Due.lowered(ears, 0, 2);
        Due.raised(ears, 1, 2);
        Due.due("down to -3 and not further", ears.judge(2, 100100), 1);
        Due.due("up to 3 and not further", ears.judge(2, 201201), 1);
        Due.due("down, up and down again", ears.judge(3, 100200100), Due.NONE);
        Due.due("up, down and up again", ears.judge(3, 201101201), Due.NONE);
        Due.due("he hears, tells it, the next one knows it", ears.judge(3, 400510), Due.NONE);
        Due.due("he has not heard it yet", ears.judge(2, 400510), 1);
        Due.due("changed, he hears nothing", ears.judge(3, 301000500), 2);
        Due.due("he hears, is changed, and knows it there", ears.judge(3, 301510), Due.NONE);
    }

    private static void knownAndDry() {
        Due.sentence("5, a HOUSE, a THING: he knows it; 6, 0, v: DRY is v or more): the place of the first that can not be (or is not so)");
        DripEars ears = Due.made("EH39H09H09H09H39S450S000R1");
        ears.hour();
        Due.due("the last knows the last thing", ears.judge(1, 545), Due.NONE);
        Due.due("not the thing ahead", ears.judge(1, 544), 0);
        Due.due("not the one ahead", ears.judge(1, 535), 0);
        Due.due("no such thing", ears.judge(1, 546), 0);
        Due.due("no such thing", ears.judge(1, 549), 0);
        Due.due("no such house", ears.judge(1, 555), 0);
        Due.due("not the first thing yet", ears.judge(1, 500), 0);
        Due.due("the first thing behind an hour", ears.judge(2, 500), Due.NONE);
        DripEars dry = Due.made("EH00");
        for (int hour = 0; hour <= 11; hour++) {
            for (int v = 0; v <= 9; v++) {
                Due.due("dry behind " + hour + " is " + v, dry.judge(1, 600 + v), v <= hour ? Due.NONE : 0);
            }
            dry.hour();
        }
    }

    private static void heard() {
        Due.sentence("HEARD: that an unknown HEARER, no MARRIED one, HEARD at his own HOUSE, its VOICE being 0, a SAYING of "
            + "LOUD l (0 to 9) by a RAIN of r (0 to 9) (1), or did not (0)");
        // Heard by walls below loud less rain, and by 2 more or less of a keen or a dull one.
        dueEars(new int[][] {{9, 0, 1}}, 26, 0);
        dueEars(new int[][] {{9, 0, 0}}, 4, 9);
        dueEars(new int[][] {{0, 9, 0}}, 30, 0);
        dueEars(new int[][] {{0, 9, 1}}, 0, Due.NONE);
        dueEars(new int[][] {{9, 9, 1}}, 2, 10);
        dueEars(new int[][] {{9, 9, 0}}, 28, 0);
        dueEars(new int[][] {{0, 1, 1}}, 1, 10);
        dueEars(new int[][] {{0, 2, 1}}, 0, Due.NONE);
        dueEars(new int[][] {{0, 0, 1}, {0, 1, 0}}, 1, 11);
        Due.sentence("6 such at most, none at first.");
        DripEars ears = new DripEars();
        Due.due("none at first", ears.count(11), 0);
        for (int size = 1; size <= 6; size++) {
            Due.due("hear", ears.hear(5, 5, 0), size);
        }
        Due.due("a seventh", ears.hear(5, 5, 0), Due.FULL);
        Due.due("heard", ears.count(11), 6);
        int[] more = {0, 9, 0};
        int[] least = {9, 0, 0};
        dueEars(new int[][] {least, more, more, more, more, more}, 4, 9);
        dueEars(new int[][] {more, more, more, more, more, least}, 4, 9);
        Due.sentence("EARS: KINDS (0 to 2) and WALLS (0 to 9) by which all that is HEARD is so: how many (30 there are); "
            + "the first (10 times KIND and WALL); NONE.");
        dueEars(new int[][] {}, 30, 0);
        dueEars(new int[][] {{6, 0, 1}, {6, 0, 0}}, 0, Due.NONE);
        // Of walls from 5 (plain), 7 (keen), 3 (dull) and below 6, 8, 4 there is one of each kind.
        dueEars(new int[][] {{5, 0, 0}, {6, 0, 1}}, 3, 5);
        DripEars lane = Due.made("EH30S009");
        Due.raised(lane, 0, 3);
        Due.hours(lane, 3);
        lane.hear(9, 0, 0);
        Due.due("the lane is not asked", lane.ears(0), 4);
    }

    private static void dueEars(int[][] heard, int many, int first) {
        DripEars ears = new DripEars();
        StringBuilder words = new StringBuilder();
        for (int[] one : heard) {
            ears.hear(one[0], one[1], one[2]);
            words.append(' ').append(one[0]).append(one[1]).append(one[2]);
        }
        Due.due("how many by" + words, ears.ears(0), many);
        Due.due("the first by" + words, ears.ears(1), first);
    }

    private static void shares() {
        Due.sentence("SHARE of a HEARER: if HEARERS come one by one, in each order as likely: by how many in the mean THINGS "
            + "that any who has come knows are more when he has come than they were: a FRACTION.");
        DripEars alone = Due.made("EH30S000S010S020S030S040S050R1");
        Due.dueShare(alone, 0, 0, 1);
        Due.hours(alone, 6);
        Due.dueShare(alone, 0, 6, 1);
        // Only he at house 0 hears, things 0 2 4 1 3 by two hours each; plates tell them on, each one less far.
        DripEars ears = Due.made("EH00H09H09H09H09S001S011S021S031S041R0R1");
        for (int last = 3; last >= -1; last--) {
            Due.hours(ears, 2);
            for (int house = 0; house <= last; house++) {
                ears.plate(house);
            }
            if (last == 3) {
                Due.dueShare(ears, 0, 1, 5);
                Due.dueShare(ears, 4, 1, 5);
            }
        }
        Due.dueShare(ears, 0, 137, 60);
        Due.dueShare(ears, 1, 77, 60);
        Due.dueShare(ears, 2, 47, 60);
        Due.dueShare(ears, 3, 9, 20);
        Due.dueShare(ears, 4, 1, 5);
    }

    private static void dueRests(String text, int many, int first, int firstTurned) {
        dueRests(Due.made(text), text, many, first, firstTurned);
    }

    private static void dueRests(DripEars ears, String name, int many, int first, int firstTurned) {
        Due.due("how many of " + name, ears.rests(0, 1, 0), many);
        Due.due("how many of " + name + " turned", ears.rests(1, 0, 0), many);
        Due.due("the first of " + name, ears.rests(0, 1, 1), first);
        Due.due("the first of " + name + " turned", ears.rests(1, 0, 1), firstTurned);
    }

    private static void rests() {
        Due.sentence("pairs in which neither has more by another choice alone: how many; the first (10 times the one and the other); NONE.");
        // To lower hides nothing; one thing (as good as not); two of one house; two of each.
        dueRests("EH00H00", 1, 0, 0);
        dueRests("EH00H00S001R0R0R1", 2, 0, 0);
        dueRests("EH00H00S001S111R0R0R1", 4, 0, 0);
        dueRests("EH00H00S001S011R0R0R1", 1, 10, 1);
        dueRests("EH00H00S101S111R0R0R1", 1, 1, 10);
        dueRests("EH00H00S001S011S122S131R0R0R1R0", 1, 11, 11);
        // To lower hides two things from the other alone: it would help both if both did, and so nobody does.
        dueRests("EH00H00S003S013S124S133R0R0R1R0", 1, 0, 0);
        // He at 0 is as well off by both; he at 1 hears it from both houses, so it helps him only if both lower.
        dueRests("EH20H00S003S101R0R0R1", 3, 0, 0);
        // There is always one: by the other's lowering one's own never helps less, so NONE has no test.
        Due.sentence("RESTS of two HOUSES: each is LOWERED (1), if it can be, or is not (0)");
        DripEars lowered = Due.made("EH00H00S001S011R0R0R1");
        Due.raised(lowered, 0, 3);
        dueRests(lowered, "a voice of 3", 1, 0, 0);
        Due.lowered(lowered, 0, 3);
        dueRests(lowered, "a voice of 0", 1, 10, 1);
        Due.lowered(lowered, 0, 3);
        dueRests(lowered, "a voice of -3", 1, 0, 0);
        DripEars lowest = Due.made("EH00H00S003S013R0R0R1");
        Due.lowered(lowest, 0, 2);
        dueRests(lowest, "down to -3: 3 - 3 > 0", 1, 10, 1);
        DripEars louder = Due.made("EH00H00S004S014R0R0R1");
        Due.lowered(louder, 0, 3);
        dueRests(louder, "not further: 4 - 3 > 0", 1, 0, 0);
        Due.sentence("then there are 4 HOURS: each has as much as 6 less how many THINGS the HEARER at it knows then, "
            + "less 1, if it chose 1");
        dueRests("EH00H00S002S000S000S012S000R1", 1, 10, 1);
        dueRests("EH00H00S002S000S000S000S012R1", 2, 0, 0);
        // What is known now is known then: of two things that he would hear one is no loss.
        DripEars known = Due.made("EH00H00S001S011R0R0R1");
        known.hour();
        dueRests(known, "one of two known", 2, 0, 0);
    }

    private static void dries() {
        Due.sentence("DRIES: in each of n HOURS (1 to 6) from now on its RAIN is 0 by x tenths (0 to 10), by itself: "
            + "that a HEARER knows a THING behind them: a FRACTION.");
        DripEars ears = Due.made("EH08S009R1");
        Due.dueDries(ears, new int[] {0, 0, 1, 0}, 0, 1);
        Due.dueDries(ears, new int[] {0, 0, 1, 1}, 1, 10);
        Due.dueDries(ears, new int[] {0, 0, 1, 9}, 9, 10);
        Due.dueDries(ears, new int[] {0, 0, 1, 10}, 1, 1);
        Due.dueDries(ears, new int[] {0, 0, 6, 0}, 0, 1);
        Due.dueDries(ears, new int[] {0, 0, 6, 1}, 468559, 1000000);
        Due.dueDries(ears, new int[] {0, 0, 6, 9}, 999999, 1000000);
        Due.dueDries(ears, new int[] {0, 0, 6, 10}, 1, 1);
        Due.dueDries(ears, new int[] {0, 1, 6, 10}, 0, 1);
        // Only in the 6th hour, if it is dry, and not if the three ahead of it were: 1/2 by 7/8.
        DripEars sixth = Due.made("EH08S000S000S000S000S000S039R1");
        Due.dueDries(sixth, new int[] {0, 3, 5, 5}, 0, 1);
        Due.dueDries(sixth, new int[] {0, 3, 6, 5}, 7, 16);
        Due.dueDries(sixth, new int[] {0, 3, 6, 10}, 0, 1);
        Due.hours(sixth, 5);
        Due.dueDries(sixth, new int[] {0, 3, 1, 5}, 1, 2);
        // A rain told as 0 is 0 by any x.
        Due.dueDries(Due.made("EH08S009R0"), new int[] {0, 0, 1, 0}, 1, 1);
        Due.dueDries(Due.made("EH08S009"), new int[] {0, 0, 1, 0}, 1, 1);
        // Two dry hours are gone; by a third they are on the common.
        DripEars third = Due.made("EH30H09S000R0R0R1");
        Due.hours(third, 2);
        Due.dueDries(third, new int[] {1, 0, 1, 3}, 3, 10);
        Due.dueDries(third, new int[] {0, 0, 1, 0}, 1, 1);
        // Strayed by now, he hears in the second hour only if the first was not dry.
        DripEars strayed = Due.made("EH30S000S000S000S010S010R0R0R0R1");
        Due.hours(strayed, 3);
        Due.dueDries(strayed, new int[] {0, 1, 1, 5}, 0, 1);
        Due.dueDries(strayed, new int[] {0, 1, 2, 3}, 7, 10);
    }

    /** A seed whose next lot is this one and the lot behind it an hour; x is below 0 ahead of the lot, if asked. */
    private static long seedFor(int lot, boolean below) {
        for (long v = 0; v < 1000000; v++) {
            long x = v * FACTOR + STEP;
            long y = x * FACTOR + STEP;
            if ((x >>> 33) % 32 == lot && (y >>> 33) % 32 >= 18 && x < 0 == below) {
                return v;
            }
        }
        throw new IllegalStateException("no seed for " + lot);
    }

    private static void years() {
        Due.sentence("YEARS by THE SEED: m times (1 to 30) x (THE SEED, a long; 0 at first) becomes x times 6364136223846793005 "
            + "and 1442695040888963407 (64 bits, wrapping)");
        Due.due("0 at first", new DripEars().seed(1), 0);
        BigInteger range = BigInteger.ONE.shiftLeft(64);
        for (long v : new long[] {0, 1, -1, Long.MAX_VALUE, Long.MIN_VALUE, 1L << 32, -5000000000L}) {
            for (int m : new int[] {1, 2, 29, 30}) {
                BigInteger x = BigInteger.valueOf(v);
                for (int i = 0; i < m; i++) {
                    x = x.multiply(BigInteger.valueOf(FACTOR)).add(BigInteger.valueOf(STEP)).mod(range);
                }
                DripEars ears = Due.made("EH30S000");
                ears.seed(v);
                ears.years(m);
                Due.due("the seed " + v + " behind " + m, ears.seed(0), x.longValue());
            }
        }
        DripEars refused = Due.made("EH30S000");
        refused.seed(5);
        Due.due("m 0", refused.years(0), Due.OUTSIDE);
        Due.due("m 31", refused.years(31), Due.OUTSIDE);
        Due.due("the seed stays", refused.seed(0), 5);
        lots();
        Due.sentence("how many THINGS each knows, all added up, each time, together.");
        DripEars known = Due.made("EH30H09S000S010S020S030S040S050R1");
        Due.hours(known, 6);
        known.plate(0);
        Due.due("12 things once", known.years(1), 12);
        Due.due("12 things each time", known.years(30), 360);
        Due.due("no hearers", Due.made("E").years(30), 0);
    }

    private static void lots() {
        Due.sentence("its upper 31 bits by 32, what is left: 0 to 4 that HOUSE is LOWERED, 5 to 9 that less 5 HOUSE is RAISED, "
            + "10 to 13 the HEARER at that less 10 is CHANGED with the next one, 14 to 17 PLATE of that less 14 HOUSE, "
            + "each if it can be; 18 and more AN HOUR");
        for (int house = 0; house < 5; house++) {
            for (int houses = house + 1; houses <= 5; houses++) {
                String plain = "E" + "H00".repeat(houses) + "S" + house + "0";
                dueLots(() -> Due.made(plain + "2R1"));
                dueLots(() -> Due.made(plain + "1R1"));
            }
            String married = "E" + "H09".repeat(house) + "H39" + "H09".repeat(4 - house);
            for (int said = 0; said < 5; said++) {
                String text = married + "S" + said + "00R1";
                dueLots(() -> Due.made(text));
                dueLots(() -> behindAnHour(text));
            }
        }
        dueLots(() -> atVoice("EH00S004R0R1", -3));
        dueLots(() -> atVoice("EH06S004R0R1", 3));
        dueLots(() -> Due.made("E"));
    }

    private static DripEars behindAnHour(String text) {
        DripEars ears = Due.made(text);
        ears.hour();
        return ears;
    }

    private static DripEars atVoice(String text, int voice) {
        DripEars ears = Due.made(text);
        Due.lowered(ears, 0, Math.max(0, -voice));
        Due.raised(ears, 0, Math.max(0, voice));
        return ears;
    }

    /** Two years by a lot and an hour are the act itself and an hour. */
    private static void dueLots(Maker maker) {
        for (int lot = 0; lot < 32; lot++) {
            DripEars done = maker.make();
            actOf(done, lot);
            int want = allKnown(done);
            done.hour();
            want += allKnown(done);
            for (boolean below : new boolean[] {true, false}) {
                DripEars ears = maker.make();
                ears.seed(SEEDS[below ? 1 : 0][lot]);
                Due.due("years by lot " + lot, ears.years(2), want);
            }
        }
    }

    private static final long[][] SEEDS = seeds();

    private static long[][] seeds() {
        long[][] seeds = new long[2][32];
        for (int lot = 0; lot < 32; lot++) {
            seeds[0][lot] = seedFor(lot, false);
            seeds[1][lot] = seedFor(lot, true);
        }
        return seeds;
    }

    private static void actOf(DripEars ears, int lot) {
        if (lot <= 4) {
            ears.lower(lot);
        } else if (lot <= 9) {
            ears.raise(lot - 5);
        } else if (lot <= 13) {
            ears.change(lot - 10, lot - 9);
        } else if (lot <= 17) {
            ears.plate(lot - 14);
        } else {
            ears.hour();
        }
    }

    private static int allKnown(DripEars ears) {
        int all = 0;
        for (int house = 0; house < ears.count(1); house++) {
            all += Integer.bitCount(ears.house(house, 3));
        }
        return all;
    }

    private static void slots() {
        Due.sentence("SLOTS 0 to 1 keep HEARERS, what they know, VOICES, DRY, THE HOUR (THE ROW of ACTS is empty when one goes on).");
        DripEars ears = Due.made("EH30H09S000S010");
        Due.due("keep a beginning", ears.keep(1), 0);
        Due.hours(ears, 2);
        ears.lower(0);
        ears.raise(1);
        ears.change(0, 1);
        Due.due("keep", ears.keep(0), 2);
        Due.due("the row stays", ears.count(10), 5);
        Due.hours(ears, 2);
        Due.due("strayed", ears.count(7), 1);
        ears.raise(0);
        ears.change(0, 1);
        Due.due("the beginning again", ears.again(1), 0);
        dueAgain(ears, new int[] {0, 0, 0, 0, 0, 0, 0, 0, 1});
        ears.hour();
        Due.due("the later one again", ears.again(0), 2);
        dueAgain(ears, new int[] {2, 2, 0, -1, 1, 0, 3, 1, 0});
        ears.hour();
        Due.due("strayed by a third dry hour", ears.count(7), 1);
        Due.due("kept while strayed", ears.keep(1), 3);
        ears.undo();
        Due.due("not strayed", ears.count(7), 0);
        Due.due("strayed again", ears.again(1), 3);
        Due.due("strayed again", ears.count(7), 1);
        Due.due("dry again", ears.count(6), 3);
        Due.due("the other slot is as it was", ears.again(0), 2);
        dueAgain(ears, new int[] {2, 2, 0, -1, 1, 0, 3, 1, 0});
        Due.due("no slot 2", ears.keep(2), Due.UNKNOWN);
        Due.due("no slot -1", ears.again(-1), Due.UNKNOWN);
    }

    /** The hour, dry, acts, voices, what is known, and where the hearers were told, at houses 0 and 1. */
    private static void dueAgain(DripEars ears, int[] want) {
        Due.due("the hour", ears.count(4), want[0]);
        Due.due("dry", ears.count(6), want[1]);
        Due.due("acts", ears.count(10), want[2]);
        Due.due("undo", ears.undo(), Due.STATE);
        for (int house = 0; house < 2; house++) {
            Due.due("voice of " + house, ears.house(house, 1), want[3 + house]);
            Due.due("known at " + house, ears.house(house, 3), want[5 + house]);
            Due.due("told at, of " + house, ears.house(house, 4), want[7 + house]);
        }
    }
}
