import java.util.ArrayList;
import java.util.List;
import java.util.function.Consumer;
import java.util.function.ToIntFunction;

/** "and nothing happens": after each refused call, and each that only asks, all that can be asked answers as without it. */
public final class RefusalTest extends Kit {
    private static final int MAX = Integer.MAX_VALUE;
    private static final int MIN = Integer.MIN_VALUE;
    private static final String TAPE = "block a lay 3 at 1 stem 1; end sheet clip 7; use a at mark 2; end";

    /** How a stage came to be what it is, and what all looks at it answer. */
    private static final class Start {
        private final String name;
        private final Consumer<MixStage> calls;
        private final int[] answers;

        Start(String name, Consumer<MixStage> calls) {
            this.name = name;
            this.calls = calls;
            this.answers = lookAll(calls, x -> 0);
        }

        /** A call that is refused with an answer, or one that only asks (its answer is of no matter here). */
        void refused(String call, int answer, ToIntFunction<MixStage> refused) {
            about(name + ", " + call);
            MixStage x = new MixStage();
            calls.accept(x);
            due(call, refused.applyAsInt(x), answer);
            asked(call, refused);
        }

        void refuses(String call, ToBoolean refused) {
            refused(call, 0, x -> refused.of(x) ? 1 : 0);
        }

        void asked(String call, ToIntFunction<MixStage> asking) {
            int[] now = lookAll(calls, asking);
            for (int i = 0; i < now.length; i++) {
                due("look " + LOOK_NAMES.get(i) + " after " + call, now[i], answers[i]);
            }
        }
    }

    private interface ToBoolean {
        boolean of(MixStage x);
    }

    private interface Ask {
        long ask(MixStage x, int i);
    }

    private static final List<ToIntFunction<MixStage>> LOOKS = new ArrayList<>();
    private static final List<String> LOOK_NAMES = new ArrayList<>();

    /** Each look is had on a stage of its own, so that no stage is asked more than 512 calls. */
    private static int[] lookAll(Consumer<MixStage> start, ToIntFunction<MixStage> between) {
        int[] answers = new int[LOOKS.size()];
        for (int i = 0; i < answers.length; i++) {
            MixStage x = new MixStage();
            start.accept(x);
            between.applyAsInt(x);
            answers[i] = LOOKS.get(i).applyAsInt(x);
        }
        return answers;
    }

    private static void look(String name, int n, Ask ask) {
        LOOK_NAMES.add(name);
        LOOKS.add(x -> {
            int all = 17;
            for (int i = 0; i < n; i++) {
                all = all * 31 + Long.hashCode(ask.ask(x, i));
            }
            return all;
        });
    }

    private static void tellLooks() {
        look("count", 7, (x, i) -> x.count(i));
        look("place", 1, (x, i) -> x.place());
        look("frames", 7, (x, i) -> x.frames(i));
        look("old of 1, 2", 120, (x, i) -> x.old(i % 2 + 1, i / 2, i % 2));
        look("old of 3, 4, 5", 180, (x, i) -> x.old(i % 3 + 3, i / 3, i % 3 + 2));
        look("about", 140, (x, i) -> x.about(i / 7, i % 7));
        look("length, leans, loud, seam", 80, (x, i) -> i % 4 == 0 ? x.length(i / 4) : i % 4 == 1 ? x.leans(i / 4)
                : i % 4 == 2 ? x.loud(i / 4, 1) : x.seam(i / 4));
        for (int s = 0; s < 20; s++) {
            int sound = s;
            look("heard of " + s, 26, (x, i) -> x.heard(sound, i - 1));
        }
        for (int s = 0; s < 8; s++) {
            int sheet = s;
            look("cues of " + s, 50, (x, i) -> i == 0 ? x.cues(sheet) : x.cue(sheet, i / 4, i % 4));
        }
        look("fate, goes", 160, (x, i) -> i % 2 == 0 ? x.fate(i / 20, i / 4 % 5, i / 2 % 2) : x.goes(i / 20, i / 4 % 5, i / 2 % 2));
        look("quarrel, tame", 24, (x, i) -> i % 3 == 0 ? x.tame(i / 3) : x.quarrel(i / 3, i % 3));
        look("fit", 60, (x, i) -> x.fit(2 + i / 30, 2 + i / 15 % 2, i % 5, i % 3));
        for (int f = 0; f < 60; f += 8) {
            int frame = f;
            look("fit with a MOUTH at " + f, 7, (x, i) -> i == 0 ? x.mouth(11, frame) : x.fit(11, 2 + i % 2, 0, i / 2 % 3));
        }
        look("sounding, owed", 48, (x, i) -> i % 2 == 0 ? x.sounding(i / 6, 4, i / 2 % 3) : x.owed(i / 6, 4, i / 2 % 3, 1));
        look("what is on the tape", 30, (x, i) -> i == 0 ? x.read() : i == 1 ? x.place() : x.cue(x.count(2) - 1, (i - 2) / 4, i % 4));
        look("back", 12, (x, i) -> x.back(7));
        look("feed", 2, (x, i) -> x.feed(1, 2, 3, 4, 5));
        look("more BLANKS", 12, (x, i) -> x.blank(1));
        look("more KEPT", 12, (x, i) -> x.keep(0, 1));
        look("more EDITIONS", 12, (x, i) -> i % 2 == 0 ? x.edition() : x.blank(1));
        look("more MOUTHS", 40, (x, i) -> x.mouth(i / 2, 1));
        look("more SOUNDS", 4, (x, i) -> i % 2 == 0 ? x.mixed() : x.count(3));
        look("reel", 2, (x, i) -> i == 0 ? (x.reel(7) ? 1 : 0) : x.frames(0));
        look("made again", 50, (x, i) -> i == 0 ? x.again() : i == 1 ? x.count(3) : x.heard(i % 2 == 0 ? 7 : 13, i / 2));
    }

    // ---- where the calls are refused

    private static void rich(MixStage x) {
        x.reel(6);
        tone(x, 8, 100, -9);
        x.sound(1, 6, 1, 4);
        x.wave(1, 0, 6, 5, 5);
        x.sound(2, 8, 0, 0);
        x.wave(2, 0, 8, 70, 1);
        x.sound(2, 4, 0, 0);
        for (int i = 0; i < 8; i++) {
            x.mark(i, 2 * i + 1);
            x.mouth(3, 5 * i);
            if (i < 3) {
                x.mouth(2, 7 * i);
            }
        }
        x.sound(3, 12, 5, 0);
        x.wave(4, 0, 12, 30, 4);
        x.trim(4, 2, 7);
        x.mute(2);
        x.mixed();
        x.mixed();
        for (int kind = 0; kind < 4; kind++) {
            x.sound(kind, -1, 0, 9 * kind);
        }
        x.mixed();
        x.trim(13, 1, 9);
        x.hisses(0, 3);
        x.hisses(1, 50);
        x.hisses(2, 500);
        String marks = "";
        for (int i = 0; i < 8; i++) {
            marks += "lay 0 at mark " + i + " stem 0;";
        }
        String[] lays = {"lay 0 at 0 stem 0; lay 4 at 1 stem 1; lay 1 at 2 stem 0;", "lay 7 at 1 stem 2; lay 5 at 2 stem 0;", marks,
            "lay 8 at 0 stem 0;", "lay 14 at 0 stem 0;", "lay 0 at 0 stem 0; lay 15 at 0 stem 0;"};
        for (String lay : lays) {
            tell(x, "sheet " + lay + "end");
        }
        tell(x, "rules loud 9 in 2; right seconds + owner * 10 if land < 5; right heard; end");
        x.make(7, 0, 0);
        x.make(13, 1, 0);
        x.sample(0, 1, 77);
        x.edition();
        x.keep(0, 3);
        x.blank(1);
        feed(x, "sheet $ ");
        x.read();
        feed(x, TAPE);
    }

    private static void full(MixStage x) {
        x.reel(6);
        x.sound(0, 8, 0, 0);
        x.sound(1, 6, 1, 4);
        x.sound(2, 8, 0, 0);
        for (int i = 3; i < 20; i++) {
            x.mixed();
        }
        for (int e = 1; e < 6; e++) {
            x.edition();
            x.keep(1, 3);
            x.keep(0, 2);
        }
        for (int i = 0; i < 8; i++) {
            x.keep(i % 4, i % 4 + 1);
        }
        for (int i = 0; i < 8; i++) {
            tell(x, i == 6 ? "sheet clip $" : "sheet clip " + i + "; end");
        }
        tell(x, "sheet clip 9; end");
        feed(x, TAPE + times(2000 - TAPE.length(), " "));
    }

    private static void parts(MixStage x) {
        x.reel(6);
        x.edition();
        for (int i = 0; i < 10; i++) {
            x.keep(i % 6, i % 6 + 1);
        }
    }

    private static void allBut(MixStage x) {
        x.reel(60);
        x.edition();
        x.keep(0, 50);
        x.blank(9);
    }

    private static void told(MixStage x) {
        x.edition();
        x.keep(0, 5);
        tell(x, "sheet end");
    }

    public static void main(String[] args) {
        tellLooks();
        pictures();
        sounds(new Start("with all sorts of SOUNDS", RefusalTest::rich));
        makings(new Start("with MIXES made", RefusalTest::rich));
        texts();
        nothing(new Start("a new one", x -> { }));
        fullOnes(new Start("with all that can be", RefusalTest::full));
        asking(new Start("with all sorts", RefusalTest::rich));
        finish("refusals");
    }

    private static void pictures() {
        Start rich = new Start("with SHEETS and EDITION 1", RefusalTest::rich);
        for (int frames : new int[] {1, 6, 60, 0, 61, -1, MAX, MIN}) {
            rich.refuses("reel(" + frames + ")", x -> x.reel(frames));
        }
        int[][] keeps = {{-1, 1}, {0, 0}, {1, 1}, {5, 5}, {2, 1}, {0, 7}, {5, 7}, {6, 7}, {MIN, MAX}, {MAX, MIN}, {0, MAX}, {MIN, 1}};
        for (int[] keep : keeps) {
            rich.refused("keep(" + keep[0] + ", " + keep[1] + ")", -1, x -> x.keep(keep[0], keep[1]));
        }
        for (int n : new int[] {0, -1, 57, 61, MAX, MIN}) {
            rich.refused("blank(" + n + ")", -1, x -> x.blank(n));
        }
        Start one = new Start("in EDITION 0", x -> x.reel(6));
        one.refused("keep(0, 1)", -1, x -> x.keep(0, 1));
        one.refused("blank(1)", -1, x -> x.blank(1));
        for (int frames : new int[] {0, 61, -1, MAX, MIN}) {
            one.refuses("reel(" + frames + ")", x -> x.reel(frames));
        }
        Start two = new Start("with another EDITION", x -> x.edition());
        two.refuses("reel(5)", x -> x.reel(5));
        two.refused("edition()", -1, MixStage::edition);
        Start sheet = new Start("with a SHEET", x -> tell(x, "sheet end"));
        sheet.refuses("reel(5)", x -> x.reel(5));
        Start told = new Start("with a SHEET told for the last EDITION", RefusalTest::told);
        told.refused("keep(0, 1)", -1, x -> x.keep(0, 1));
        told.refused("blank(1)", -1, x -> x.blank(1));
        Start parts = new Start("with 10 PARTS", RefusalTest::parts);
        parts.refused("keep(0, 1)", -1, x -> x.keep(0, 1));
        parts.refused("blank(1)", -1, x -> x.blank(1));
        Start allBut = new Start("with 59 FRAMES", RefusalTest::allBut);
        allBut.refused("keep(0, 2)", -1, x -> x.keep(0, 2));
        allBut.refused("keep(0, 60)", -1, x -> x.keep(0, 60));
        allBut.refused("blank(2)", -1, x -> x.blank(2));
        Start empty = new Start("with a SHEET for an EDITION without FRAMES", x -> {
            x.edition();
            tell(x, "sheet end");
        });
        empty.refused("edition()", -1, MixStage::edition);
        empty.refused("keep(0, 1)", -1, x -> x.keep(0, 1));
        empty.refused("blank(1)", -1, x -> x.blank(1));
    }

    private static void sounds(Start rich) {
        int[][] sounds = {{-1, 4, 0, 1}, {4, 4, 0, 1}, {6, 4, 0, 1}, {MAX, 4, 0, 1}, {MIN, 4, 0, 1}, {0, 0, 0, 0}, {0, 241, 0, 0},
            {0, -2, 0, 0}, {2, 0, 0, 0}, {3, 241, 0, 0}, {1, MAX, 0, 1}, {2, MIN, 0, 1}, {1, 4, -1, 4}, {1, 4, 4, 4}, {1, 4, 0, 5}, {1, 4, 0, 0},
            {1, 4, 3, 2}, {1, 4, MIN, MAX}, {1, -1, 0, 241}, {1, -1, 240, 240}, {1, -1, -1, 240}, {3, 4, -1, 0}, {3, 4, 8, 0},
            {3, -1, 8, 0}, {3, -1, -1, 0}, {3, 4, MAX, 0}};
        for (int[] s : sounds) {
            rich.refused("sound(" + s[0] + ", " + s[1] + ", " + s[2] + ", " + s[3] + ")", -1, x -> x.sound(s[0], s[1], s[2], s[3]));
        }
        int[][] trims = {{-1, 0, 1}, {15, 0, 1}, {20, 0, 1}, {MAX, 0, 1}, {MIN, 0, 1}, {0, -1, 1}, {0, 1, 1}, {0, 2, 1}, {0, 0, 0}, {0, 0, 241},
            {0, 240, 240}, {0, 240, 241}, {0, MIN, MAX}, {0, 0, MAX}};
        for (int[] t : trims) {
            rich.refused("trim(" + t[0] + ", " + t[1] + ", " + t[2] + ")", -1, x -> x.trim(t[0], t[1], t[2]));
        }
        for (int line : new int[] {-1, 0, 1, 4, 5, 6, 7, 8, 9, 10, 12, 14, 15, 20, MAX, MIN}) {
            rich.refused("mute(" + line + ")", -1, x -> x.mute(line));
        }
        int[][] waves = {{-1, 0, 1, 0, 0}, {15, 0, 1, 0, 0}, {20, 0, 1, 0, 0}, {MAX, 0, 1, 0, 0}, {MIN, 0, 1, 0, 0}, {5, 0, 1, 0, 0},
            {6, 0, 1, 0, 0}, {7, 0, 1, 0, 0}, {8, 0, 1, 0, 0}, {9, 0, 1, 0, 0}, {10, 0, 1, 0, 0}, {11, 0, 1, 0, 0}, {12, 0, 1, 0, 0},
            {14, 0, 1, 0, 0}, {0, -1, 8, 0, 0}, {0, 0, 9, 0, 0}, {0, 8, 9, 0, 0}, {0, 0, MAX, 0, 0}, {0, MIN, 8, 0, 0}, {0, MIN, MAX, 0, 0},
            {0, 0, 8, 10000, 0}, {0, 0, 8, -10000, 0}, {0, 0, 8, 9993, 1}, {0, 0, 8, -9993, -1}, {0, 0, 8, 10000, -1},
            {0, 0, 8, -10000, 1}, {0, 6, 8, 10000, -10000}, {0, 0, 8, MAX, MAX}, {0, 0, 2, 0, MAX},
            {0, 0, 3, 0, MIN}, {0, 0, 5, 0, 1 << 30}, {0, 7, 8, 10000, -10000}, {1, 5, 7, 0, 0}, {2, 0, 9, 0, 0}, {4, 0, 13, 0, 0}};
        for (int[] w : waves) {
            rich.refuses("wave(" + w[0] + ", " + w[1] + ", " + w[2] + ", " + w[3] + ", " + w[4] + ")",
                    x -> x.wave(w[0], w[1], w[2], w[3], w[4]));
        }
        int[][] samples = {{-1, 0, 0}, {15, 0, 0}, {20, 0, 0}, {MAX, 0, 0}, {MIN, 0, 0}, {5, 0, 0}, {6, 0, 0}, {7, 0, 0}, {8, 0, 0}, {9, 0, 0},
            {10, 0, 0}, {11, 0, 0}, {12, 0, 0}, {14, 0, 0}, {0, -1, 0}, {0, 8, 0}, {0, MAX, 0}, {0, MIN, 0}, {0, 0, 10000}, {0, 0, -10000},
            {0, 0, MAX}, {0, 0, MIN}, {1, 6, 0}, {2, 8, 0}, {4, 12, 0}};
        for (int[] s : samples) {
            rich.refuses("sample(" + s[0] + ", " + s[1] + ", " + s[2] + ")", x -> x.sample(s[0], s[1], s[2]));
        }
        int[][] mouths = {{3, 0}, {3, 59}, {-1, 0}, {15, 0}, {20, 0}, {MAX, 0}, {MIN, 0}, {0, 0}, {1, 0}, {4, 0}, {5, 0}, {6, 0}, {7, 0}, {9, 0},
            {2, -1}, {2, 60}, {2, MAX}, {2, MIN}};
        for (int[] m : mouths) {
            rich.refused("mouth(" + m[0] + ", " + m[1] + ")", -1, x -> x.mouth(m[0], m[1]));
        }
        int[][] marks = {{-1, 0}, {8, 0}, {MAX, 0}, {MIN, 0}, {0, -1}, {0, 61}, {7, 61}, {0, MAX}, {0, MIN}};
        for (int[] m : marks) {
            rich.refuses("mark(" + m[0] + ", " + m[1] + ")", x -> x.mark(m[0], m[1]));
        }
        int[][] hisses = {{-1, 0}, {8, 0}, {MAX, 0}, {MIN, 0}, {0, -1}, {0, 1000}, {1, -1}, {2, 1000}, {0, MAX}, {0, MIN}};
        for (int[] h : hisses) {
            rich.refuses("hisses(" + h[0] + ", " + h[1] + ")", x -> x.hisses(h[0], h[1]));
        }
    }

    private static void makings(Start rich) {
        int[][] none = {{-1, 0, 0}, {15, 0, 0}, {20, 0, 0}, {MAX, 0, 0}, {MIN, 0, 0}, {0, 0, 0}, {1, 0, 0}, {2, 0, 0}, {4, 0, 0}, {5, 0, 0},
            {6, 0, 0}, {9, 0, 0}, {14, 0, 0}, {7, -1, 0}, {7, 6, 0}, {7, 8, 0}, {7, MAX, 0}, {7, MIN, 0}, {7, 0, -1}, {7, 0, 2}, {7, 0, 6},
            {7, 0, MAX}, {7, 0, MIN}};
        for (int[] m : none) {
            rich.refused("make(" + m[0] + ", " + m[1] + ", " + m[2] + ")", -1, x -> x.make(m[0], m[1], m[2]));
        }
        // itself; one that leans on it, by way of a TRIMMED one; a SOUND that is not there
        int[][] refused = {{8, 3, 0}, {8, 3, 1}, {7, 1, 0}, {7, 4, 0}, {13, 4, 1}, {7, 5, 0}, {8, 5, 0}, {13, 5, 1}};
        for (int[] m : refused) {
            rich.refused("make(" + m[0] + ", " + m[1] + ", " + m[2] + ")", -2, x -> x.make(m[0], m[1], m[2]));
        }
        Start later = new Start("with a SHEET of EDITION 1", x -> {
            rich(x);
            x.read();
        });
        later.refused("make(8, 6, 0)", -1, x -> x.make(8, 6, 0));
    }

    private static void texts() {
        Start rich = new Start("with bytes on the tape", RefusalTest::rich);
        for (int n : new int[] {-1, TAPE.length() + 1, 2001, MAX, MIN}) {
            rich.refused("back(" + n + ")", -1, x -> x.back(n));
        }
        rich.asked("back(0)", x -> x.back(0));
        String[] faults = {"", "sheet", "sheet lay 0 at 0 stem 0; $", "rules right 9; loud 1 in 1; end end", "block g end sheet $",
            "sheet taps 0 of 1, 2, 3, 4, 5; end", "rules " + times(13, "right 1;") + "end", "block a end block a end sheet end",
            "sheet clip 1; use a at 0; end", "sheet lay 20 at 0 stem 0; end", "rules right 1; loud 1 in 61; end",
            "block a " + times(16, "clip 1;") + "end sheet use a at 0; use a at 0; use a at 0; end"};
        // all but the place is as after another FAULT: the tape is empty then
        Start emptied = new Start("with an empty tape", x -> afterFault(x, "$"));
        for (String text : faults) {
            about("a FAULT changes nothing: " + text);
            int[] now = lookAll(x -> afterFault(x, text), x -> 0);
            for (int i = 0; i < now.length; i++) {
                if (!LOOK_NAMES.get(i).equals("place")) {
                    due("look " + LOOK_NAMES.get(i), now[i], emptied.answers[i]);
                }
            }
        }
    }

    private static void afterFault(MixStage x, String text) {
        rich(x);
        x.back(TAPE.length());
        int fault = tell(x, text);
        if (fault <= 0) {
            due("read() of " + text, fault, 1);
        }
    }

    private static void nothing(Start none) {
        none.refused("back(1)", -1, x -> x.back(1));
        none.refused("back(-1)", -1, x -> x.back(-1));
        none.refused("again()", 0, MixStage::again);
        none.refused("keep(0, 1)", -1, x -> x.keep(0, 1));
        none.refused("blank(1)", -1, x -> x.blank(1));
        none.refused("trim(0, 0, 1)", -1, x -> x.trim(0, 0, 1));
        none.refused("mute(0)", -1, x -> x.mute(0));
        none.refused("mouth(0, 0)", -1, x -> x.mouth(0, 0));
        none.refused("make(0, 0, 0)", -1, x -> x.make(0, 0, 0));
        none.refuses("wave(0, 0, 1, 0, 0)", x -> x.wave(0, 0, 1, 0, 0));
        none.refuses("wave(0, 0, 0, 0, 0)", x -> x.wave(0, 0, 0, 0, 0));
        none.refuses("sample(0, 0, 0)", x -> x.sample(0, 0, 0));
    }

    private static void fullOnes(Start full) {
        full.refused("feed", -1, x -> x.feed(1, 2, 3, 4, 5));
        full.refused("read()", -2, MixStage::read);
        full.refused("edition()", -1, MixStage::edition);
        full.refused("keep(0, 1)", -1, x -> x.keep(0, 1));
        full.refused("blank(1)", -1, x -> x.blank(1));
        for (int kind = 0; kind < 4; kind++) {
            int k = kind;
            full.refused("sound(" + kind + ", ..)", -1, x -> x.sound(k, 4, 0, 1));
        }
        full.refused("trim", -1, x -> x.trim(0, 0, 1));
        full.refused("mute", -1, x -> x.mute(2));
        full.refused("mixed", -1, MixStage::mixed);
        full.refuses("reel", x -> x.reel(6));
        for (int taken : new int[] {0, 1, 19}) {
            Start some = new Start("with " + (2000 - taken) + " bytes", x -> {
                feed(x, TAPE + times(2000 - TAPE.length(), " "));
                x.back(taken);
            });
            some.refused("feed", -1, x -> x.feed(-1, -1, -1, -1, -1));
            some.refused("back(" + (2001 - taken) + ")", -1, x -> x.back(2001 - taken));
        }
    }

    /** Calls that only ask change nothing, whatever they work out on the way. */
    private static void asking(Start rich) {
        for (int i = 0; i < LOOKS.size(); i++) {
            String name = LOOK_NAMES.get(i);
            boolean tells = name.startsWith("more") || name.startsWith("fit with") || name.startsWith("made") || name.startsWith("what") || name.equals("back")
                    || name.equals("feed");
            if (!tells) {
                about("asked: " + name);
                rich.asked(name, LOOKS.get(i));
            }
        }
    }
}
