import java.io.IOException;
import java.nio.file.Files;
import java.nio.file.Path;
import java.util.ArrayList;
import java.util.List;

/** What the tests of boundaries share: the sentence that is tested, what is due by it, and objects to test it on. */
final class Due {
    static final int UNKNOWN = DripEars.UNKNOWN;
    static final int OUTSIDE = DripEars.OUTSIDE;
    static final int STATE = DripEars.STATE;
    static final int FULL = DripEars.FULL;
    static final int NONE = DripEars.NONE;
    private static final List<String> SENTENCES = new ArrayList<>();
    private static int wrong = 0;

    interface Call {
        long on(DripEars ears);
    }

    interface Asked {
        long with(int number);
    }

    private Due() {
    }

    /** All that is due from here on is due by these words of the document. */
    static void sentence(String words) {
        SENTENCES.add(words);
    }

    static void due(String call, long got, long want) {
        if (got != want) {
            wrong("  " + call + " answered " + got + ", due is " + want);
        }
    }

    static void duePicture(String call, String got, String want) {
        if (!got.equals(want)) {
            wrong("  behind " + call + " there is\n    " + got + "\n  due is\n    " + want);
        }
    }

    private static void wrong(String words) {
        wrong++;
        System.out.println("\"" + SENTENCES.get(SENTENCES.size() - 1) + "\":\n" + words);
    }

    /** A number from low to high is taken, each other one refused; the answers to those taken are looked at elsewhere. */
    static void dueRange(String name, int low, int high, int refusal, Asked asked) {
        int[] refused = {Integer.MIN_VALUE, Integer.MIN_VALUE + 1, -65536, -256, low - 2, low - 1,
            high + 1, high + 2, high + 256, 65536, Integer.MAX_VALUE - 1, Integer.MAX_VALUE};
        for (int number : refused) {
            due(name + " " + number, asked.with(number), refusal);
        }
        for (int number : new int[] {low, high}) {
            if (asked.with(number) == refusal) {
                wrong("  " + name + " " + number + " is refused by " + refusal);
            }
        }
    }

    static void dueShare(DripEars ears, int house, int above, int below) {
        due("share " + house + ", above", ears.share(house, true), above);
        due("share " + house + ", below", ears.share(house, false), below);
    }

    static void dueDries(DripEars ears, int[] asked, int above, int below) {
        String call = "dries of house " + asked[0] + ", thing " + asked[1] + ", n " + asked[2] + ", x " + asked[3];
        due(call + ", above", ears.dries(asked[0], asked[1], asked[2], asked[3], true), above);
        due(call + ", below", ears.dries(asked[0], asked[1], asked[2], asked[3], false), below);
    }

    static void dueFault(String text, int want) {
        due("fault of '" + text + "'", written(text).fault(), want);
    }

    static DripEars written(String text) {
        DripEars ears = new DripEars();
        writeOn(ears, text);
        return ears;
    }

    static void writeOn(DripEars ears, String text) {
        for (int i = 0; i < text.length(); i++) {
            ears.write(text.charAt(i));
        }
    }

    static DripEars made(String text) {
        DripEars ears = written(text);
        if (ears.lane() < 0) {
            wrong("  '" + text + "' is no lane");
        }
        return ears;
    }

    static void hours(DripEars ears, int n) {
        for (int i = 0; i < n; i++) {
            ears.hour();
        }
    }

    static void lowered(DripEars ears, int house, int times) {
        for (int i = 0; i < times; i++) {
            ears.lower(house);
        }
    }

    static void raised(DripEars ears, int house, int times) {
        for (int i = 0; i < times; i++) {
            ears.raise(house);
        }
    }

    /**
     * Each limit is reached at once: house 0 is at voice -3 and house 1 at 3, the text is full and no lane, six are
     * heard, slot 0 is kept and slot 1 is not. The hearers know different things and have changed round.
     */
    static DripEars atItsLimits() {
        DripEars ears = made("EH03H29S005S148R0R2");
        ears.hour();
        ears.keep(0);
        lowered(ears, 0, 3);
        raised(ears, 1, 3);
        ears.hour();
        ears.change(0, 1);
        ears.plate(0);
        for (int loud = 4; loud < 10; loud++) {
            ears.hear(loud, 1, loud > 6 ? 1 : 0);
        }
        ears.seed(77);
        writeOn(ears, "X".repeat(45));
        return ears;
    }

    /** What the calls tell that change nothing. */
    static String looks(DripEars ears) {
        StringBuilder out = new StringBuilder();
        for (int what = 0; what <= 11; what++) {
            out.append(ears.count(what)).append(' ');
        }
        for (int house = 0; house < ears.count(1); house++) {
            for (int what = 0; what <= 5; what++) {
                out.append(ears.house(house, what)).append(' ');
            }
        }
        for (int saying = 0; saying < ears.count(2); saying++) {
            for (int what = 0; what <= 2; what++) {
                out.append(ears.saying(saying, what)).append(' ');
            }
        }
        long seed = ears.seed(0);
        ears.seed(seed);
        out.append(ears.fault()).append(' ').append(ears.ears(0)).append(' ').append(ears.ears(1));
        return out.append(' ').append(seed).toString();
    }

    /** All that can be got out of an object of two houses, who is of no more use behind it: undone, gone on from. */
    static String wholePicture(DripEars ears) {
        StringBuilder out = new StringBuilder(looks(ears));
        for (int left = ears.undo(); left != STATE; left = ears.undo()) {
            out.append(" / ").append(left).append(' ').append(ears.count(4)).append(' ').append(ears.count(6));
            for (int house = 0; house < ears.count(1); house++) {
                out.append(' ').append(ears.house(house, 1)).append(' ').append(ears.house(house, 3));
                out.append(' ').append(ears.house(house, 4));
            }
        }
        for (int slot = 0; slot < 2; slot++) {
            out.append(" // ").append(ears.again(slot)).append(' ').append(looks(ears));
        }
        return out.append(" // ").append(ears.wipe()).toString();
    }

    /** Says how it went, and ends with 1 if an answer was not as due or the document does not say what was tested. */
    static void end() throws IOException {
        String document = spaced(Files.readString(Path.of("../shared/DOC.md")));
        List<String> tested = new ArrayList<>(SENTENCES);
        for (String words : tested) {
            if (!document.contains(spaced(words))) {
                sentence(words);
                wrong("  the document does not say so");
            }
        }
        System.out.println(wrong == 0 ? tested.size() + " sentences hold" : wrong + " answers are not as due");
        if (wrong != 0) {
            System.exit(1);
        }
    }

    private static String spaced(String words) {
        return words.replaceAll("\\s+", " ");
    }
}
