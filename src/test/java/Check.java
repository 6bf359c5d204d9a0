import java.io.IOException;
import java.nio.charset.StandardCharsets;
import java.nio.file.Files;
import java.nio.file.Path;
import java.util.Comparator;
import java.util.stream.Stream;

/** Counts answers that are not as due, and feeds texts. */
final class Check {
    private final String name;
    private int asked = 0;
    private int wrong = 0;

    Check(String name) {
        this.name = name;
    }

    void due(String call, long got, long want) {
        asked++;
        if (got != want) {
            wrong++;
            System.out.println(name + ": " + call + " answered " + got + ", due is " + want);
        }
    }

    void due(String call, boolean got, boolean want) {
        due(call, got ? 1 : 0, want ? 1 : 0);
    }

    /** What lies there, all of it and nothing behind it. */
    void lying(String call, TwoInOne x, int... want) {
        due(call + ": how many lie there", x.about(12), want.length);
        for (int i = 0; i < want.length; i++) {
            due(call + ": lies(" + i + ")", x.lies(i), want[i]);
        }
        due(call + ": lies(" + want.length + ")", x.lies(want.length), TwoInOne.NONE);
    }

    /** A text that is no REGISTER: which FAULT, at which place. */
    void faulty(String text, int fault, int place) {
        TwoInOne x = new TwoInOne();
        write(x, text);
        due("register() of '" + text + "'", x.register(), TwoInOne.NONE);
        due("fault(0) of '" + text + "'", x.fault(0), fault);
        due("fault(1) of '" + text + "'", x.fault(1), place);
    }

    /** The FAULT's place is where the mark ^ stands in the text, which is taken out. */
    void faulty(String marked, int fault) {
        int place = marked.indexOf('^');
        faulty(marked.substring(0, place) + marked.substring(place + 1), fault, place);
    }

    /** A text that is a REGISTER of so many HALVES. */
    TwoInOne fine(String text, int halves) {
        TwoInOne x = new TwoInOne();
        write(x, text);
        due("register() of '" + text + "'", x.register(), halves);
        due("fault(0) of '" + text + "'", x.fault(0), 0);
        due("fault(1) of '" + text + "'", x.fault(1), TwoInOne.NONE);
        return x;
    }

    void finish() {
        System.out.println(name + ": " + asked + " answers, " + wrong + " not as due");
        if (wrong != 0 || asked == 0) {
            System.exit(1);
        }
    }

    /** A new object with this REGISTER, whatever it answers. */
    static TwoInOne of(String text) {
        TwoInOne x = new TwoInOne();
        write(x, text);
        x.register();
        return x;
    }

    /** The text comes on the TAPE, behind what is there. */
    static int write(TwoInOne x, String text) {
        byte[] bytes = text.getBytes(StandardCharsets.ISO_8859_1);
        int length = x.about(10) + bytes.length;
        for (int i = 0; i < bytes.length; i += 20) {
            int[] w = words(bytes, i);
            x.feed(w[0], w[1], w[2], w[3], w[4]);
        }
        return x.end(length);
    }

    /** Twenty bytes as five numbers; blanks behind the end. */
    static int[] words(byte[] bytes, int from) {
        int[] words = new int[5];
        for (int i = 0; i < words.length; i++) {
            words[i] = word(bytes, from + 4 * i);
        }
        return words;
    }

    private static int word(byte[] bytes, int from) {
        int word = 0;
        for (int i = from; i < from + 4; i++) {
            word = word << 8 | (i < bytes.length ? bytes[i] & 255 : ' ');
        }
        return word;
    }

    static String times(String text, int n) {
        return text.repeat(n);
    }

    /** A folder goes, with all that is in it. */
    static void remove(Path folder) throws IOException {
        try (Stream<Path> all = Files.walk(folder)) {
            for (Path each : (Iterable<Path>) all.sorted(Comparator.reverseOrder())::iterator) {
                Files.delete(each);
            }
        }
    }
}
