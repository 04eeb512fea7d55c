/** What the tests by hand have in common: texts that are told, answers that are due, and their tally. */
abstract class Kit {
    private static String subject = "";
    private static int askedBefore = 0;
    private static int asked = 0;
    private static int wrong = 0;

    /** What the answers from here on are about: a promise, or a sentence of the document; each wants one at least. */
    static void about(String what) {
        if (!subject.isEmpty() && asked == askedBefore) {
            wrong++;
            System.out.println(subject + ": not tested");
        }
        subject = what;
        askedBefore = asked;
    }

    static void finish(String name) {
        about("");
        System.out.println(name + ": " + asked + " answers, " + wrong + " wrong");
        System.exit(wrong == 0 ? 0 : 1);
    }

    static void due(String call, long got, long want) {
        asked++;
        if (got != want) {
            wrong++;
            System.out.println(subject + ": " + call + " answered " + got + ", due is " + want);
        }
    }

    static void due(String call, boolean got, boolean want) {
        due(call, got ? 1 : 0, want ? 1 : 0);
    }

    /** Feeds a text, with the blanks behind it taken back. */
    static void feed(MixStage x, String text) {
        int rest = (20 - text.length() % 20) % 20;
        String all = text + times(rest, " ");
        for (int i = 0; i < all.length(); i += 20) {
            int[] w = new int[5];
            for (int k = 0; k < 20; k++) {
                w[k / 4] = w[k / 4] << 8 | all.charAt(i + k) & 255;
            }
            x.feed(w[0], w[1], w[2], w[3], w[4]);
        }
        x.back(rest);
    }

    static int tell(MixStage x, String text) {
        feed(x, text);
        return x.read();
    }

    /** A text and the number and place of its fault (0 and -1: none). */
    static void fault(String text, int number, int place) {
        MixStage x = new MixStage();
        due("read() of " + text, tell(x, text), number);
        due("place() of " + text, x.place(), place);
        due("nothing is told by " + text, number != 0 && x.count(2) + x.count(4) > 0, false);
    }

    /** A text without a fault. */
    static void good(String text) {
        fault(text, 0, -1);
    }

    static String times(int n, String part) {
        StringBuilder all = new StringBuilder();
        for (int i = 0; i < n; i++) {
            all.append(part);
        }
        return all.toString();
    }

    static MixStage reel(int frames) {
        MixStage x = new MixStage();
        x.reel(frames);
        return x;
    }

    /** A PLAIN SOUND of n SAMPLES v, v + step, .. */
    static int tone(MixStage x, int n, int v, int step) {
        int number = x.sound(0, n, 0, 0);
        x.wave(number, 0, n, v, step);
        return number;
    }

    /** A LINE with MOUTHS. */
    static int line(MixStage x, int... mouths) {
        int number = x.sound(2, 4, 0, 0);
        for (int frame : mouths) {
            x.mouth(number, frame);
        }
        return number;
    }

    /** The SAMPLES of a SOUND from a on. */
    static void heard(MixStage x, int sound, int a, int... want) {
        for (int i = 0; i < want.length; i++) {
            due("heard(" + sound + ", " + (a + i) + ")", x.heard(sound, a + i), want[i]);
        }
    }

    /** A MIXED SOUND made by a text alone, in the EDITION that is the last. */
    static int mix(MixStage x, String text) {
        due("read() of " + text, tell(x, text), 0);
        int sound = x.mixed();
        due("make by " + text, x.make(sound, x.count(2) - 1, x.count(0) - 1) > 0, true);
        return sound;
    }
}
