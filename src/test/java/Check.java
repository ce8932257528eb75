import java.io.IOException;
import java.nio.file.Files;
import java.nio.file.Path;
import java.util.ArrayList;
import java.util.List;

/** What the tests share: it counts and prints the answers that are not as due. */
final class Check {
    private final List<String> said = new ArrayList<>();
    private String sentence = "";
    private int asked;
    private int wrong;

    void due(String call, long got, long want) {
        asked++;
        if (got != want) {
            wrong++;
            System.out.println(sentence + call + " answered " + got + ", due is " + want);
        }
    }

    /** The words of the document that the answers up to the next call of this one hold to. */
    void says(String words) {
        sentence = "[" + words + "] ";
        said.add(words);
    }

    void due(String call, boolean got, boolean want) {
        due(call, got ? 1 : 0, want ? 1 : 0);
    }

    /** 24 signs a call, as feed() takes them. */
    static int put(RingDisk x, String text) {
        int signs = x.count(7);
        for (int at = 0; at < text.length(); at += 24) {
            signs = x.feed(bytes(text, at), bytes(text, at + 8), bytes(text, at + 16));
        }
        return signs;
    }

    static long bytes(String text, int from) {
        long all = 0;
        for (int i = from; i < from + 8; i++) {
            all = all << 8 | (i < text.length() ? text.charAt(i) & 255 : 0);
        }
        return all;
    }

    /** A disk at STEP 0 with so many rings and these laws, which must be without a fault. */
    RingDisk disk(int rings, String laws) {
        RingDisk x = new RingDisk();
        due("rings(" + rings + ")", x.rings(rings), true);
        law(x, laws, 0);
        return x;
    }

    void law(RingDisk x, String text, int want) {
        put(x, text);
        due("laws() of \"" + text + "\"", x.laws(), want);
    }

    /** The fault at the sign ^ of the text, which is taken out. */
    void fault(int kind, String text) {
        int place = text.indexOf('^');
        String plain = text.substring(0, place) + text.substring(place + 1);
        law(new RingDisk(), plain, kind + 16 * place);
    }

    void fine(String text) {
        law(new RingDisk(), text, 0);
    }

    /** The gas of all rings, warm and periods being as at first. */
    void gas(RingDisk x, int... gas) {
        for (int i = 0; i < gas.length; i++) {
            due("ring " + i, x.ring(i, gas[i], 0, 100 * (i + 1)), true);
        }
    }

    void dustOf(RingDisk x, int ring, int... want) {
        for (int size = 0; size < want.length; size++) {
            due("has(" + ring + ", " + size + ")", x.has(ring, size), want[size]);
        }
    }

    /** A notice, not a fault: a document that is worded anew need not ask for anything else. */
    private void noticeWhatIsNoMoreSaid() {
        try {
            String all = Files.readString(Path.of("../shared/DOC.md")).replace("`", "").replaceAll("\\s+", " ");
            for (String words : said) {
                if (!all.contains(words)) {
                    System.out.println("notice: the document does not say: " + words);
                }
            }
        } catch (IOException e) {
            System.out.println("notice: no document is there");
        }
    }

    void end(String name) {
        if (!said.isEmpty()) {
            noticeWhatIsNoMoreSaid();
        }
        System.out.println(name + ": " + asked + " answers, " + wrong + " wrong"
                + (said.isEmpty() ? "" : ", " + said.size() + " sentences"));
        if (wrong > 0) {
            System.exit(1);
        }
    }
}
