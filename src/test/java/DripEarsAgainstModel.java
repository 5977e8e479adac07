import java.math.BigInteger;
import java.util.ArrayList;
import java.util.List;
import java.util.Random;
import java.util.regex.Pattern;

/** Runs drawn by fixed seeds; each answer against a model that is slow and follows the document word by word. */
public final class DripEarsAgainstModel {
    private static final int RUNS = 300;
    /** Calls come in groups of up to 60; behind the 512th of an object the document promises nothing. */
    private static final int CALLS = 450;

    private final Random random;
    private final int run;
    private final DripEars ears = new DripEars();
    private final Model model = new Model();
    private final List<String> calls = new ArrayList<>();
    private static int wrong = 0;

    private DripEarsAgainstModel(int run) {
        this.run = run;
        this.random = new Random(1000L + run);
    }

    public static void main(String[] args) {
        for (int run = 0; run < RUNS && wrong == 0; run++) {
            new DripEarsAgainstModel(run).play();
        }
        System.out.println(wrong == 0 ? "all answers are the model's" : "an answer is not the model's");
        if (wrong != 0) {
            System.exit(1);
        }
    }

    private void due(String call, long got, long want) {
        calls.add(call + " = " + got);
        if (got != want && wrong == 0) {
            wrong++;
            for (String earlier : calls) {
                System.out.println(earlier);
            }
            System.out.println("run " + run + ": " + call + " answered " + got + ", the model's is " + want);
        }
    }

    private void play() {
        if (run % 8 != 0) {
            writeText(drawnLane());
            due("lane()", ears.lane(), model.lane());
        }
        while (calls.size() < CALLS && wrong == 0) {
            call(random.nextInt(34));
        }
    }

    private void writeText(String text) {
        due("wipe()", ears.wipe(), model.wipe());
        for (int i = 0; i < text.length(); i++) {
            due("write(" + (int) text.charAt(i) + ")", ears.write(text.charAt(i)), model.write(text.charAt(i)));
        }
    }

    private String drawnLane() {
        return random.nextBoolean() ? subtleLane() : anyLane();
    }

    private String anyLane() {
        StringBuilder text = new StringBuilder("E");
        int houses = random.nextInt(6);
        for (int i = 0; i < houses; i++) {
            text.append('H').append(random.nextInt(4)).append(random.nextInt(random.nextBoolean() ? 10 : 5));
        }
        int sayings = houses == 0 ? 0 : random.nextInt(9);
        int things = 1 + random.nextInt(6);
        for (int i = 0; i < sayings; i++) {
            text.append('S').append(random.nextInt(houses)).append(random.nextInt(things)).append(random.nextInt(10));
        }
        int rains = random.nextInt(5);
        int most = 1 + random.nextInt(10);
        for (int i = 0; i < rains; i++) {
            text.append('R').append(random.nextBoolean() ? 0 : random.nextInt(most));
        }
        return text.toString();
    }

    /** Nobody strays and sayings are hardly loud enough, so that each hearer knows other things. */
    private String subtleLane() {
        StringBuilder text = new StringBuilder("E");
        int houses = 3 + random.nextInt(3);
        int[] walls = new int[houses];
        for (int i = 0; i < houses; i++) {
            walls[i] = random.nextInt(7);
            text.append('H').append(random.nextInt(4)).append(walls[i]);
        }
        for (int i = 0; i < 8; i++) {
            int house = random.nextInt(houses);
            int loud = Math.min(9, walls[house] + random.nextInt(5));
            text.append('S').append(house).append(random.nextInt(6)).append(loud);
        }
        text.append('R').append(1 + random.nextInt(2));
        int more = random.nextInt(3);
        for (int i = 0; i < more; i++) {
            text.append('R').append(random.nextInt(2));
        }
        return text.toString();
    }

    /** Mostly a number of the range, at times one beside it or far off. */
    private int number(int from, int to) {
        switch (random.nextInt(40)) {
            case 0:
                return from - 1;
            case 1:
                return to + 1;
            case 2:
                return random.nextInt();
            default:
                return from + random.nextInt(to - from + 1);
        }
    }

    private int aHouse() {
        return random.nextInt(12) == 0 ? number(0, 5) : number(0, Math.max(0, model.houses.size() - 1));
    }

    private void call(int which) {
        int a;
        int b;
        int c;
        int d;
        boolean upper = random.nextBoolean();
        switch (which) {
            case 0:
                if (random.nextInt(12) == 0) {
                    writeText(drawnLane());
                    due("lane()", ears.lane(), model.lane());
                }
                break;
            case 1:
                a = "EHSR0123456789".charAt(random.nextInt(14));
                a = random.nextInt(10) == 0 ? number(0, 255) : a;
                due("write(" + a + ")", ears.write(a), model.write(a));
                due("fault()", ears.fault(), model.fault());
                break;
            case 2:
                if (random.nextInt(12) == 0) {
                    due("wipe()", ears.wipe(), model.wipe());
                    due("fault()", ears.fault(), model.fault());
                }
                break;
            case 3:
                due("fault()", ears.fault(), model.fault());
                break;
            case 4:
                if (random.nextInt(12) == 0) {
                    due("lane()", ears.lane(), model.lane());
                }
                break;
            case 5:
            case 6:
                a = aHouse();
                b = number(0, 5);
                due("house(" + a + ", " + b + ")", ears.house(a, b), model.house(a, b));
                break;
            case 7:
                a = number(0, 7);
                b = number(0, 2);
                due("saying(" + a + ", " + b + ")", ears.saying(a, b), model.saying(a, b));
                break;
            case 8:
            case 9:
            case 10:
                due("hour()", ears.hour(), model.hour());
                break;
            case 11:
                a = aHouse();
                due("lower(" + a + ")", ears.lower(a), model.lower(a));
                break;
            case 12:
                a = aHouse();
                due("raise(" + a + ")", ears.raise(a), model.raise(a));
                break;
            case 13:
                a = aHouse();
                b = aHouse();
                due("change(" + a + ", " + b + ")", ears.change(a, b), model.change(a, b));
                break;
            case 14:
                a = aHouse();
                due("plate(" + a + ")", ears.plate(a), model.plate(a));
                break;
            case 15:
                for (int times = random.nextInt(20) == 0 ? 16 : 1; times > 0; times--) {
                    due("undo()", ears.undo(), model.undo());
                }
                break;
            case 16:
                a = aHouse();
                b = number(0, 30);
                due("later(" + a + ", " + b + ")", ears.later(a, b), model.later(a, b));
                break;
            case 17:
                a = aHouse();
                b = number(0, 5);
                due("first(" + a + ", " + b + ")", ears.first(a, b), model.first(a, b));
                break;
            case 18:
            case 19:
                a = aHouse();
                b = number(0, 5);
                c = number(1, 12);
                d = number(0, 1);
                due("keeps(" + a + ", " + b + ", " + c + ", " + d + ")", ears.keeps(a, b, c, d), model.keeps(a, b, c, d));
                break;
            case 20:
                a = random.nextBoolean() ? number(0, 63) : model.known() & random.nextInt(64);
                b = number(0, 1);
                due("tells(" + a + ", " + b + ")", ears.tells(a, b), model.tells(a, b));
                break;
            case 21:
            case 22:
                a = number(1, 4);
                long row = drawnRow(a);
                due("judge(" + a + ", " + row + ")", ears.judge(a, row), model.judge(a, row));
                break;
            case 23:
                a = number(0, 9);
                b = number(0, 9);
                c = number(0, 1);
                due("hear(" + a + ", " + b + ", " + c + ")", ears.hear(a, b, c), model.hear(a, b, c));
                break;
            case 24:
                if (random.nextInt(4) == 0) {
                    due("unhear()", ears.unhear(), model.unhear());
                }
                break;
            case 25:
                a = number(0, 1);
                due("ears(" + a + ")", ears.ears(a), model.ears(a));
                break;
            case 26:
                a = aHouse();
                due("share(" + a + ", " + upper + ")", ears.share(a, upper), model.share(a, upper));
                break;
            case 27:
                a = aHouse();
                b = aHouse();
                c = number(0, 1);
                due("rests(" + a + ", " + b + ", " + c + ")", ears.rests(a, b, c), model.rests(a, b, c));
                break;
            case 28:
                a = aHouse();
                b = number(0, 5);
                c = number(1, 6);
                d = number(0, 10);
                due("dries(" + a + ", " + b + ", " + c + ", " + d + ", " + upper + ")",
                    ears.dries(a, b, c, d, upper), model.dries(a, b, c, d, upper));
                break;
            case 29:
                long v = random.nextBoolean() ? random.nextLong() : random.nextInt(10);
                due("seed(" + v + ")", ears.seed(v), model.seed(v));
                break;
            case 30:
                a = number(1, 30);
                due("years(" + a + ")", ears.years(a), model.years(a));
                break;
            case 31:
                a = number(0, 1);
                due("keep(" + a + ")", ears.keep(a), model.keep(a));
                break;
            case 32:
                a = number(0, 1);
                due("again(" + a + ")", ears.again(a), model.again(a));
                break;
            default:
                a = number(0, 11);
                due("count(" + a + ")", ears.count(a), model.count(a));
                break;
        }
    }

    private long drawnRow(int n) {
        if (random.nextInt(20) == 0) {
            return random.nextLong() >> random.nextInt(64);
        }
        int houses = Math.max(1, model.houses.size());
        long row = 0;
        for (int i = 0; i < Math.min(4, n); i++) {
            int doing = random.nextInt(random.nextInt(8) == 0 ? 10 : 7);
            int middle = doing == 3 || doing == 5 ? random.nextInt(houses) : random.nextInt(15) / 14;
            int last = doing == 0 ? random.nextInt(15) / 14 : random.nextInt(houses);
            last = random.nextInt(10) == 0 ? random.nextInt(10) : last;
            row = row * 1000 + doing * 100 + middle * 10 + last;
        }
        return row;
    }

    /** A hearer goes with his kind and what he knows. */
    private static final class Person {
        final int kind;
        final int home;
        int at;
        boolean[] knows = new boolean[6];
        boolean strayed;

        Person(int kind, int home) {
            this.kind = kind;
            this.home = home;
            this.at = home;
        }

        Person copy() {
            Person copy = new Person(kind, home);
            copy.at = at;
            copy.knows = knows.clone();
            copy.strayed = strayed;
            return copy;
        }

        int bits() {
            int bits = 0;
            for (int thing = 0; thing < 6; thing++) {
                bits += knows[thing] ? 1 << thing : 0;
            }
            return bits;
        }
    }

    private static final class World {
        List<Person> people = new ArrayList<>();
        int[] voices = new int[0];
        int dry;
        int hour;

        World copy() {
            World copy = new World();
            for (Person person : people) {
                copy.people.add(person.copy());
            }
            copy.voices = voices.clone();
            copy.dry = dry;
            copy.hour = hour;
            return copy;
        }

        Person at(int house) {
            for (Person person : people) {
                if (person.at == house) {
                    return person;
                }
            }
            throw new IllegalStateException();
        }
    }

    private static final class Model {
        private static final Pattern LANE = Pattern.compile("E(H[0-3][0-9]|S[0-4][0-5][0-9]|R[0-9])*");
        private final StringBuilder text = new StringBuilder();
        List<Integer> houses = new ArrayList<>();
        private List<int[]> sayings = new ArrayList<>();
        private List<Integer> rains = new ArrayList<>();
        private World world = new World();
        private List<World> past = new ArrayList<>();
        private final World[] slots = new World[2];
        private final List<int[]> heard = new ArrayList<>();
        private long seed;

        int write(int letter) {
            if (letter < 0 || letter > 255) {
                return -2;
            }
            if (text.length() == 64) {
                return -4;
            }
            text.append((char) letter);
            return text.length();
        }

        int wipe() {
            int length = text.length();
            text.setLength(0);
            return length;
        }

        private static boolean isLane(String words) {
            if (!LANE.matcher(words).matches()) {
                return false;
            }
            int h = 0;
            int s = 0;
            int r = 0;
            for (int i = 0; i < words.length(); i++) {
                char letter = words.charAt(i);
                h += letter == 'H' ? 1 : 0;
                s += letter == 'S' ? 1 : 0;
                r += letter == 'R' ? 1 : 0;
                if (letter == 'S' && words.charAt(i + 1) - '0' >= h) {
                    return false;
                }
            }
            return h <= 5 && s <= 8 && r <= 4;
        }

        private static boolean canBecomeLane(String words) {
            return words.isEmpty() || isLane(words) || isLane(words + "0") || isLane(words + "00") || isLane(words + "000");
        }

        int fault() {
            String words = text.toString();
            if (isLane(words)) {
                return -9;
            }
            int place = 0;
            while (place < words.length() && canBecomeLane(words.substring(0, place + 1))) {
                place++;
            }
            return place;
        }

        int lane() {
            if (fault() != -9) {
                return -3;
            }
            houses = new ArrayList<>();
            sayings = new ArrayList<>();
            rains = new ArrayList<>();
            world = new World();
            past = new ArrayList<>();
            slots[0] = null;
            slots[1] = null;
            for (String part : text.substring(1).split("(?=[HSR])")) {
                if (part.startsWith("H")) {
                    world.people.add(new Person(part.charAt(1) - '0', houses.size()));
                    houses.add(part.charAt(2) - '0');
                } else if (part.startsWith("S")) {
                    sayings.add(new int[] {part.charAt(1) - '0', part.charAt(2) - '0', part.charAt(3) - '0'});
                } else if (part.startsWith("R")) {
                    rains.add(part.charAt(1) - '0');
                }
            }
            world.voices = new int[houses.size()];
            return 100 * houses.size() + 10 * sayings.size() + rains.size();
        }

        private boolean noHouse(int house) {
            return house < 0 || house >= houses.size();
        }

        private static boolean noThing(int thing) {
            return thing < 0 || thing > 5;
        }

        private int rainOf(World w) {
            return rains.isEmpty() ? 0 : rains.get(w.hour % rains.size());
        }

        private boolean hears(World w, Person person, int rain) {
            if (sayings.isEmpty() || person.strayed) {
                return false;
            }
            int[] saying = sayings.get(w.hour % sayings.size());
            int j = saying[0];
            if (person.kind == 3 && person.at == j) {
                return true;
            }
            int ear = person.kind == 1 ? 2 : person.kind == 2 ? -2 : 0;
            int away = person.at > j ? person.at - j : j - person.at;
            return saying[2] + w.voices[j] + ear > houses.get(j) + 2 * away + rain;
        }

        private int pass(World w, int rain) {
            List<Integer> before = new ArrayList<>();
            List<Person> hearing = new ArrayList<>();
            for (Person person : w.people) {
                before.add(person.bits());
                if (hears(w, person, rain)) {
                    hearing.add(person);
                }
            }
            for (Person person : hearing) {
                person.knows[sayings.get(w.hour % sayings.size())[1]] = true;
            }
            w.dry = rain != 0 ? 0 : w.dry == 9 ? 9 : w.dry + 1;
            for (Person person : w.people) {
                person.strayed = w.dry >= 3;
            }
            if (w.dry >= 3) {
                for (int thing = 0; thing < 6; thing++) {
                    boolean any = false;
                    for (Person person : w.people) {
                        any |= person.knows[thing];
                    }
                    for (Person person : w.people) {
                        person.knows[thing] = any;
                    }
                }
            }
            w.hour++;
            int more = 0;
            for (int i = 0; i < before.size(); i++) {
                more += before.get(i) != w.people.get(i).bits() ? 1 : 0;
            }
            return more;
        }

        private World after(World w, int n) {
            World later = w.copy();
            for (int i = 0; i < n; i++) {
                pass(later, rainOf(later));
            }
            return later;
        }

        int house(int house, int what) {
            if (noHouse(house)) {
                return -1;
            }
            Person person = world.at(house);
            if (what == 0) {
                return houses.get(house);
            }
            if (what == 1) {
                return world.voices[house];
            }
            if (what == 2) {
                return person.kind;
            }
            if (what == 3) {
                return person.bits();
            }
            if (what == 4) {
                return person.home;
            }
            return what == 5 ? (hears(world, person, rainOf(world)) ? 1 : 0) : -2;
        }

        int saying(int saying, int what) {
            if (saying < 0 || saying >= sayings.size()) {
                return -1;
            }
            return what < 0 || what > 2 ? -2 : sayings.get(saying)[what];
        }

        private void note() {
            past.add(world.copy());
            if (past.size() > 14) {
                past.remove(0);
            }
        }

        int hour() {
            note();
            return pass(world, rainOf(world));
        }

        int lower(int house) {
            if (noHouse(house)) {
                return -1;
            }
            if (world.voices[house] == -3) {
                return -3;
            }
            note();
            return --world.voices[house];
        }

        int raise(int house) {
            if (noHouse(house)) {
                return -1;
            }
            if (world.voices[house] == 3) {
                return -3;
            }
            note();
            return ++world.voices[house];
        }

        private static void swap(World w, int one, int other) {
            Person first = w.at(one);
            Person second = w.at(other);
            first.at = other;
            second.at = one;
        }

        int change(int one, int other) {
            if (noHouse(one) || noHouse(other)) {
                return -1;
            }
            if (one == other) {
                return -2;
            }
            note();
            swap(world, one, other);
            return world.at(one).bits();
        }

        private static void tell(World w, int house) {
            for (int thing = 0; thing < 6; thing++) {
                w.at(house + 1).knows[thing] |= w.at(house).knows[thing];
            }
        }

        int plate(int house) {
            if (noHouse(house)) {
                return -1;
            }
            if (noHouse(house + 1)) {
                return -3;
            }
            note();
            tell(world, house);
            return world.at(house + 1).bits();
        }

        int undo() {
            if (past.isEmpty()) {
                return -3;
            }
            world = past.remove(past.size() - 1);
            return past.size();
        }

        int later(int house, int n) {
            if (noHouse(house)) {
                return -1;
            }
            return n < 0 || n > 30 ? -2 : after(world, n).at(house).bits();
        }

        int first(int house, int thing) {
            if (noHouse(house) || noThing(thing)) {
                return -1;
            }
            for (int n = 0; n <= 30; n++) {
                if (after(world, n).at(house).knows[thing]) {
                    return n;
                }
            }
            return -9;
        }

        int keeps(int house, int thing, int n, int what) {
            if (noHouse(house) || noThing(thing)) {
                return -1;
            }
            if (n < 1 || n > 12 || what < 0 || what > 1) {
                return -2;
            }
            int best = -9;
            int fewest = -9;
            for (int way = 0; way < 1 << 2 * houses.size(); way++) {
                int figures = 0;
                int sum = 0;
                boolean can = true;
                int[] voices = world.voices.clone();
                for (int i = 0; i < voices.length; i++) {
                    int times = way >> 2 * (voices.length - 1 - i) & 3;
                    figures = 10 * figures + times;
                    sum += times;
                    voices[i] -= times;
                    can &= voices[i] >= -3;
                }
                if (can && (fewest == -9 || sum < fewest)) {
                    World w = world.copy();
                    w.voices = voices;
                    if (!after(w, n).at(house).knows[thing]) {
                        fewest = sum;
                        best = figures;
                    }
                }
            }
            return what == 0 ? fewest : best;
        }

        int known() {
            int known = 0;
            for (Person person : world.people) {
                known |= person.bits();
            }
            return known;
        }

        int tells(int things, int what) {
            if (things < 0 || things > 63 || what < 0 || what > 1) {
                return -2;
            }
            for (int size = 0; size <= houses.size(); size++) {
                for (int group = 0; group < 32; group++) {
                    if (Integer.bitCount(group) == size && group < 1 << houses.size()) {
                        int known = 0;
                        for (int house = 0; house < houses.size(); house++) {
                            known |= (group & 1 << house) != 0 ? world.at(house).bits() : 0;
                        }
                        if ((known & things) == things) {
                            return what == 0 ? size : group;
                        }
                    }
                }
            }
            return -9;
        }

        int judge(int n, long row) {
            if (n < 1 || n > 4 || row < 0 || Long.toString(row).length() > 3 * n) {
                return -2;
            }
            StringBuilder digits = new StringBuilder(Long.toString(row));
            while (digits.length() < 3 * n) {
                digits.insert(0, '0');
            }
            World w = world.copy();
            for (int i = 0; i < n; i++) {
                String doing = digits.substring(3 * i, 3 * i + 3);
                int b = doing.charAt(1) - '0';
                int c = doing.charAt(2) - '0';
                boolean can;
                if (doing.equals("000")) {
                    can = true;
                    pass(w, rainOf(w));
                } else if (doing.startsWith("10")) {
                    can = !noHouse(c) && --w.voices[c] >= -3;
                } else if (doing.startsWith("20")) {
                    can = !noHouse(c) && ++w.voices[c] <= 3;
                } else if (doing.startsWith("3")) {
                    can = b != c && !noHouse(b) && !noHouse(c);
                    if (can) {
                        swap(w, b, c);
                    }
                } else if (doing.startsWith("40")) {
                    can = !noHouse(c) && !noHouse(c + 1);
                    if (can) {
                        tell(w, c);
                    }
                } else if (doing.startsWith("5")) {
                    can = !noHouse(b) && !noThing(c) && w.at(b).knows[c];
                } else {
                    can = doing.startsWith("60") && w.dry >= c;
                }
                if (!can) {
                    return i;
                }
            }
            return -9;
        }

        int hear(int loud, int rain, int was) {
            if (loud < 0 || loud > 9 || rain < 0 || rain > 9 || was < 0 || was > 1) {
                return -2;
            }
            if (heard.size() == 6) {
                return -4;
            }
            heard.add(new int[] {loud, rain, was});
            return heard.size();
        }

        int unhear() {
            int size = heard.size();
            heard.clear();
            return size;
        }

        int ears(int what) {
            if (what < 0 || what > 1) {
                return -2;
            }
            List<Integer> fitting = new ArrayList<>();
            for (int code = 0; code < 30; code++) {
                int ear = new int[] {0, 2, -2}[code / 10];
                boolean fits = true;
                for (int[] h : heard) {
                    fits &= (h[0] + ear > code % 10 + h[1]) == (h[2] == 1);
                }
                if (fits) {
                    fitting.add(code);
                }
            }
            return what == 0 ? fitting.size() : fitting.isEmpty() ? -9 : fitting.get(0);
        }

        private static int side(long above, long below, boolean upper) {
            long divisor = BigInteger.valueOf(above).gcd(BigInteger.valueOf(below)).longValue();
            return (int) ((upper ? above : below) / divisor);
        }

        /** Adds up, over each order of those yet to come, what the one brings; answers {sum, orders}. */
        private long[] orders(int one, int came, int known) {
            if ((came >> one & 1) == 1) {
                return new long[] {0, 1};
            }
            long sum = 0;
            long orders = 0;
            for (int next = 0; next < houses.size(); next++) {
                if ((came >> next & 1) == 0) {
                    int knownThen = known | world.at(next).bits();
                    long[] rest = orders(one, came | 1 << next, knownThen);
                    long ways = next == one ? factorial(houses.size() - Integer.bitCount(came) - 1) : rest[1];
                    sum += next == one ? ways * (Integer.bitCount(knownThen) - Integer.bitCount(known)) : rest[0];
                    orders += ways;
                }
            }
            return new long[] {sum, orders};
        }

        private static long factorial(int n) {
            return n < 2 ? 1 : n * factorial(n - 1);
        }

        int share(int house, boolean upper) {
            if (noHouse(house)) {
                return -1;
            }
            long[] sum = orders(house, 0, 0);
            return side(sum[0], sum[1], upper);
        }

        private int has(int own, int ownChoice, int other, int otherChoice) {
            World w = world.copy();
            w.voices[own] = Math.max(-3, w.voices[own] - ownChoice);
            w.voices[other] = Math.max(-3, w.voices[other] - otherChoice);
            return 6 - Integer.bitCount(after(w, 4).at(own).bits()) - ownChoice;
        }

        int rests(int one, int other, int what) {
            if (noHouse(one) || noHouse(other)) {
                return -1;
            }
            if (one == other || what < 0 || what > 1) {
                return -2;
            }
            List<Integer> resting = new ArrayList<>();
            for (int a = 0; a < 2; a++) {
                for (int b = 0; b < 2; b++) {
                    if (has(one, a, other, b) >= has(one, 1 - a, other, b)
                        && has(other, b, one, a) >= has(other, 1 - b, one, a)) {
                        resting.add(10 * a + b);
                    }
                }
            }
            return what == 0 ? resting.size() : resting.isEmpty() ? -9 : resting.get(0);
        }

        private long tenths(World w, int n, int x, int house, int thing) {
            if (n == 0) {
                return w.at(house).knows[thing] ? 1 : 0;
            }
            World dry = w.copy();
            pass(dry, 0);
            World told = w.copy();
            pass(told, rainOf(told));
            return x * tenths(dry, n - 1, x, house, thing) + (10 - x) * tenths(told, n - 1, x, house, thing);
        }

        int dries(int house, int thing, int n, int x, boolean upper) {
            if (noHouse(house) || noThing(thing)) {
                return -1;
            }
            if (n < 1 || n > 6 || x < 0 || x > 10) {
                return -2;
            }
            return side(tenths(world, n, x, house, thing), (long) Math.pow(10, n), upper);
        }

        long seed(long v) {
            long before = seed;
            seed = v;
            return before;
        }

        int years(int m) {
            if (m < 1 || m > 30) {
                return -2;
            }
            World w = world.copy();
            int sum = 0;
            for (int i = 0; i < m; i++) {
                BigInteger x = BigInteger.valueOf(seed).multiply(new BigInteger("6364136223846793005"));
                seed = x.add(new BigInteger("1442695040888963407")).longValue();
                int lot = Integer.parseInt(String.format("%64s", Long.toBinaryString(seed)).replace(' ', '0').substring(26, 31), 2);
                if (lot <= 4) {
                    if (!noHouse(lot) && w.voices[lot] > -3) {
                        w.voices[lot]--;
                    }
                } else if (lot <= 9) {
                    if (!noHouse(lot - 5) && w.voices[lot - 5] < 3) {
                        w.voices[lot - 5]++;
                    }
                } else if (lot <= 13) {
                    if (!noHouse(lot - 9)) {
                        swap(w, lot - 10, lot - 9);
                    }
                } else if (lot <= 17) {
                    if (!noHouse(lot - 13)) {
                        tell(w, lot - 14);
                    }
                } else {
                    pass(w, rainOf(w));
                }
                for (Person person : w.people) {
                    sum += Integer.bitCount(person.bits());
                }
            }
            return sum;
        }

        int keep(int slot) {
            if (slot < 0 || slot > 1) {
                return -1;
            }
            slots[slot] = world.copy();
            return world.hour;
        }

        int again(int slot) {
            if (slot < 0 || slot > 1) {
                return -1;
            }
            if (slots[slot] == null) {
                return -3;
            }
            world = slots[slot].copy();
            past.clear();
            return world.hour;
        }

        int count(int what) {
            int hearing = 0;
            boolean strayed = houses.isEmpty() && world.dry >= 3;
            for (Person person : world.people) {
                hearing |= hears(world, person, rainOf(world)) ? 1 << person.at : 0;
                strayed |= person.strayed;
            }
            int[] counts = {text.length(), houses.size(), sayings.size(), rains.size(), world.hour, rainOf(world),
                world.dry, strayed ? 1 : 0, known(), hearing, past.size(), heard.size()};
            return what < 0 || what >= counts.length ? -2 : counts[what];
        }
    }
}
