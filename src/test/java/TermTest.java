/** The document's "Terms", sentence by sentence: the last value on each side, the first beyond it, the empty and the full. */
public final class TermTest extends Kit {
    private static final String[] WORDS = ("block end sheet rules lay at from for gain speed stem fade to dip under by hold taps of"
            + " clip use mark right loud in if or and not seconds owner land frames heard").split(" ");

    public static void main(String[] args) {
        pictures();
        frames();
        sounds();
        loopsAndLines();
        leaningSounds();
        stamps();
        finish("terms");
    }

    // ---- THE PICTURE

    private static void pictures() {
        about("EDITION 0 has FRAMES 0 .. (1 .. 60 of them; 24 at first)");
        MixStage x = new MixStage();
        due("frames(0)", x.frames(0), 24);
        due("the last FRAME", x.old(0, 23, 0), 23);
        due("behind it", x.old(0, 24, 0), -2);
        due("reel(1)", x.reel(1), true);
        due("the last FRAME", x.old(0, 0, 0), 0);
        due("behind it", x.old(0, 1, 0), -2);
        due("reel(0)", x.reel(0), false);
        due("reel(61)", x.reel(61), false);
        due("frames(0)", x.frames(0), 1);
        due("reel(60)", x.reel(60), true);
        due("the last FRAME", x.old(0, 59, 0), 59);
        due("behind it", x.old(0, 60, 0), -2);

        about("EDITIONS, 6 at most, numbered from 0 on");
        for (int e = 1; e < 6; e++) {
            due("frames of none such", x.frames(e), -1);
            due("edition()", x.edition(), e);
            due("frames without PARTS", x.frames(e), 0);
            due("keep", x.keep(0, 1), 1);
        }
        due("a seventh", x.edition(), -1);
        due("frames(6)", x.frames(6), -1);
        due("count(0)", x.count(0), 6);
        due("from EDITION 0 by way of all", x.old(5, 0, 0), 0);
        due("of none such", x.old(6, 0, 0), -2);

        about("Another one is cut from the one ahead of it");
        x = reel(5);
        x.edition();
        x.keep(3, 5);
        x.edition();
        due("FRAMES of EDITION 0, not of 1", x.keep(0, 3), -1);
        due("all FRAMES of EDITION 1", x.keep(0, 2), 2);
        due("its first one", x.old(2, 0, 0), 3);
        due("its last one", x.old(2, 1, 0), 4);
        parts();
    }

    private static void parts() {
        about("PARTS, 10 at most, in their order");
        MixStage x = reel(60);
        x.edition();
        for (int i = 0; i < 10; i++) {
            due("a refused one is none", x.keep(60, 61), -1);
            due("keep", x.keep(59 - i, 60 - i), i + 1);
        }
        due("an eleventh, KEEP", x.keep(0, 1), -1);
        due("an eleventh, BLANK", x.blank(1), -1);
        for (int i = 0; i < 10; i++) {
            due("old(1, " + i + ", 0)", x.old(1, i, 0), 59 - i);
        }
        x.edition();
        for (int i = 0; i < 10; i++) {
            due("blank", x.blank(2), 2 * i + 2);
        }
        due("an eleventh, BLANK", x.blank(1), -1);
        due("an eleventh, KEEP", x.keep(0, 1), -1);
        due("frames(2)", x.frames(2), 20);
        x.edition();
        due("ten anew", x.keep(0, 20), 20);

        about("KEEP: FRAMES a .. b - 1 of that");
        x = reel(60);
        x.edition();
        due("the first", x.keep(0, 1), 1);
        due("the last", x.keep(59, 60), 2);
        due("none", x.keep(1, 1), -1);
        due("behind the last", x.keep(59, 61), -1);
        due("some between", x.keep(7, 9), 4);
        int[] from = {0, 59, 7, 8};
        for (int f = 0; f < 4; f++) {
            due("old(1, " + f + ", 0)", x.old(1, f, 0), from[f]);
        }

        about("1 .. 60 FRAMES in all");
        x = reel(60);
        x.edition();
        due("all 60", x.keep(0, 60), 60);
        due("a 61st, KEEP", x.keep(0, 1), -1);
        due("a 61st, BLANK", x.blank(1), -1);
        x.edition();
        due("59", x.keep(0, 59), 59);
        due("two more, KEEP", x.keep(0, 2), -1);
        due("two more, BLANK", x.blank(2), -1);
        due("one more", x.keep(7, 8), 60);
        x.edition();
        due("60 BLANK", x.blank(60), 60);
        due("a 61st", x.blank(1), -1);
        x.edition();
        due("61 BLANK", x.blank(61), -1);
        due("one ahead without FRAMES", x.edition(), -1);
        due("one alone", x.blank(1), 1);
        due("one ahead with one", x.edition(), 5);
        due("its one FRAME", x.keep(0, 1), 1);
    }

    private static void frames() {
        about("A FRAME f of an EDITION e comes from a FRAME of an EDITION d (not behind e): through all between; from none, if one is BLANK");
        MixStage x = reel(6);
        int[][] cuts = {{1, 6}, {0, 4}, {1, 4}, {0, 2}};
        for (int e = 1; e < 5; e++) {
            x.edition();
            x.blank(1);
            x.keep(cuts[e - 1][0], cuts[e - 1][1]);
        }
        // EDITION 1: - 1 2 3 4 5; 2: - - 1 2 3 (by EDITION 0); 3: - - 1 2; 4: - - -
        int[][] old = {{-1, 1, 2, 3, 4, 5}, {-1, -1, 1, 2, 3}, {-1, -1, 1, 2}, {-1, -1, -1}};
        for (int e = 1; e < 5; e++) {
            due("frames(" + e + ")", x.frames(e), old[e - 1].length);
            for (int f = 0; f < old[e - 1].length; f++) {
                due("old(" + e + ", " + f + ", 0)", x.old(e, f, 0), old[e - 1][f]);
            }
            due("old(" + e + ", .., 0)", x.old(e, old[e - 1].length, 0), -2);
        }
        due("BLANK in the one ahead", x.old(3, 1, 2), 1);
        due("from a FRAME of d that is BLANK in d", x.old(3, 1, 1), 0);
        due("through one", x.old(4, 2, 3), 1);
        due("BLANK between", x.old(4, 1, 2), -1);
        due("BLANK between", x.old(4, 1, 1), -1);
        due("BLANK itself", x.old(4, 0, 3), -1);
        due("its own", x.old(4, 2, 4), 2);
        due("d one behind e", x.old(3, 0, 4), -2);

        about("A FRAME of d goes to those FRAMES of e that come from it");
        x = reel(3);
        tone(x, 4, 1, 0);
        tell(x, "sheet lay 0 at 1 stem 0; end");
        x.edition();
        x.keep(0, 2);
        due("to one", x.fate(0, 0, 1), 0);
        x.keep(1, 2);
        due("to two", x.fate(0, 0, 1), 3);
        due("the first of them", x.goes(0, 0, 1), 1);

        about("A FRAME has four SAMPLES: FRAME f has SAMPLES 4 * f .. 4 * f + 3");
        x = reel(60);
        tone(x, 240, 1, 1);
        int mix = mix(x, "sheet lay 0 at 0 stem 0; end");
        due("length", x.length(mix), 240);
        heard(x, mix, 236, 237, 238, 239, 240, 0);
        x.edition();
        x.keep(59, 60);
        x.keep(0, 1);
        x.make(mix, 0, 1);
        due("length", x.length(mix), 8);
        heard(x, mix, -1, 0, 237, 238, 239, 240, 1, 2, 3, 4, 0);
    }

    // ---- II. SOUNDS

    private static void sounds() {
        about("SOUNDS, 20 at most, numbered from 0 on");
        for (int kind = 0; kind < 7; kind++) {
            MixStage x = new MixStage();
            due("a LINE", x.sound(2, 4, 0, 0), 0);
            for (int i = 1; i < 20; i++) {
                due("kind " + kind, tellKind(x, kind), i);
            }
            for (int other = 0; other < 7; other++) {
                due("a 21st, of kind " + other, tellKind(x, other), -1);
            }
            due("count(1)", x.count(1), 20);
            due("count(3)", x.count(3), 20);
            due("the last one's kind", x.about(19, 0), kind);
            due("kind of a 21st", x.about(20, 0), -1);
        }

        about("SAMPLES (-9999 .. 9999; 0 at first), n of them (1 .. 240), or is MISSING");
        MixStage x = new MixStage();
        for (int kind = 0; kind < 4; kind++) {
            due("none", x.sound(kind, 0, 0, 1), -1);
            due("more than 240", x.sound(kind, 241, 0, 1), -1);
            due("less than none", x.sound(kind, -2, 0, 1), -1);
            int one = x.sound(kind, 1, 0, 1);
            int all = x.sound(kind, 240, 0, 1);
            int missing = x.sound(kind, MixStage.NONE, 0, 1);
            due("length", x.length(one), 1);
            due("length", x.length(all), 240);
            due("length of a MISSING one", x.length(missing), 0);
            heard(x, one, -1, 0, 0, 0);
            heard(x, all, 239, 0, 0);
            due("the last SAMPLE", x.sample(all, 239, 9999), true);
            due("behind it", x.sample(all, 240, 9999), false);
            due("the only SAMPLE", x.sample(one, 0, -9999), true);
            due("behind it", x.sample(one, 1, -9999), false);
            due("above 9999", x.sample(all, 0, 10000), false);
            due("below -9999", x.sample(all, 0, -10000), false);
            due("of a MISSING one", x.sample(missing, 0, 0), false);
            heard(x, one, -1, 0, -9999, 0);
            heard(x, all, 238, 0, 9999, 0);
        }

        about("A SAMPLE of a SOUND that it has not (behind its end, MISSING) is 0");
        x = reel(1);
        tone(x, 4, 5, 0);
        int missing = x.sound(0, -1, 0, 0);
        int mixed = x.mixed();
        heard(x, 0, -1, 0, 5, 5, 5, 5, 0);
        heard(x, missing, -1, 0, 0, 0);
        heard(x, mixed, 0, 0);
        heard(x, 3, 0, 0);
    }

    private static int tellKind(MixStage x, int kind) {
        if (kind < 4) {
            return x.sound(kind, 4, 0, 1);
        }
        return kind == 4 ? x.trim(0, 0, 1) : kind == 5 ? x.mute(0) : x.mixed();
    }

    private static void loopsAndLines() {
        about("LOOP: with a, b: it goes round from a to b - 1");
        MixStage x = reel(2);
        int whole = x.sound(1, 3, 0, 3);
        int one = x.sound(1, 3, 2, 3);
        int inner = x.sound(1, 5, 1, 2);
        for (int i = 0; i < 3; i++) {
            x.wave(i, 0, x.length(i), 1, 1);
        }
        int a = mix(x, "sheet lay " + whole + " at 0 stem 0; end");
        heard(x, a, 0, 1, 2, 3, 1, 2, 3, 1, 2, 0);
        int b = mix(x, "sheet lay " + one + " at 0 stem 0; end");
        heard(x, b, 0, 1, 2, 3, 3, 3, 3, 3, 3, 0);
        int c = mix(x, "sheet lay " + inner + " at 0 stem 0; end");
        heard(x, c, 0, 1, 2, 2, 2, 2, 2, 2, 2, 0);
        due("the SAMPLES behind b are there", x.heard(inner, 4), 5);
        due("its length", x.length(inner), 5);
        int d = mix(x, "sheet lay " + x.trim(inner, 0, 240) + " at 0 stem 0; end");
        heard(x, d, 0, 1, 2, 3, 4, 5, 0, 0, 0);

        about("LINE: with MOUTHS: FRAMES of it (0 .. 59), 8 at most");
        x = new MixStage();
        x.sound(2, 4, 0, 0);
        due("below 0", x.mouth(0, -1), -1);
        due("above 59", x.mouth(0, 60), -1);
        due("the last", x.mouth(0, 59), 1);
        due("the first", x.mouth(0, 0), 2);
        for (int i = 3; i <= 8; i++) {
            due("one more", x.mouth(0, 59), i);
        }
        due("a ninth", x.mouth(0, 0), -1);
        due("MOUTHS of another", x.mouth(x.sound(2, -1, 0, 0), 0), 1);

        about("MUSIC: with an OWNER (0 .. 7)");
        x = new MixStage();
        due("below", x.sound(3, 4, -1, 0), -1);
        due("above", x.sound(3, 4, 8, 0), -1);
        due("MISSING, above", x.sound(3, -1, 8, 0), -1);
        due("the first", x.sound(3, 4, 0, 0), 0);
        due("the last", x.sound(3, 4, 7, 0), 1);
        tell(x, "rules right owner + 1; end");
        tell(x, "sheet end");
        due("the first", x.owed(0, 0, 0, 0), 1);
        due("the last", x.owed(0, 1, 0, 0), 8);
    }

    private static void leaningSounds() {
        about("TRIMMED: SAMPLES a .. b - 1 of another SOUND, as that is now (behind what that has: it ends)");
        MixStage x = reel(3);
        tone(x, 10, 1, 1);
        int[][] ends = {{0, 1, 1}, {9, 10, 1}, {9, 11, 1}, {10, 11, 0}, {11, 240, 0}, {0, 10, 10}, {0, 240, 10}};
        for (int[] end : ends) {
            int trimmed = x.trim(0, end[0], end[1]);
            due("length of " + end[0] + " .. " + end[1], x.length(trimmed), end[2]);
            heard(x, trimmed, -1, 0, end[2] == 0 ? 0 : end[0] + 1);
            due("its last", x.heard(trimmed, end[2] - 1), end[2] == 0 ? 0 : end[0] + end[2]);
            due("behind it", x.heard(trimmed, end[2]), 0);
        }
        int within = x.trim(x.trim(0, 2, 8), 3, 5);
        heard(x, within, -1, 0, 6, 7, 0);
        int ending = x.trim(x.trim(0, 2, 8), 4, 7);
        heard(x, ending, -1, 0, 7, 8, 0);
        x.sample(0, 7, -8);
        heard(x, ending, 0, 7, -8, 0);
        due("of a MISSING one", x.length(x.trim(x.sound(0, -1, 0, 0), 0, 240)), 0);
        int mixed = x.mixed();
        int late = x.trim(mixed, 4, 11);
        due("of one not made", x.length(late), 0);
        tell(x, "sheet lay 0 at 0 stem 0; end");
        x.make(mixed, 0, 0);
        due("of one made", x.length(late), 7);
        heard(x, late, 0, 5, 6, 7, -8, 9, 10, 0);
        x.edition();
        x.keep(0, 2);
        x.make(mixed, 0, 1);
        due("of one made shorter", x.length(late), 4);
        heard(x, late, 3, -8, 0);

        about("MUTED: a LINE's, all 0");
        x = new MixStage();
        x.sound(2, 240, 0, 0);
        x.wave(0, 0, 240, 9, 0);
        int muted = x.mute(0);
        due("length", x.length(muted), 240);
        heard(x, muted, 238, 0, 0, 0);
        due("length of a TRIMMED one of it", x.length(x.trim(muted, 239, 240)), 1);
        due("of a MISSING LINE", x.length(x.mute(x.sound(2, -1, 0, 0))), 0);

        about("MIXED: as it was made last");
        x = reel(2);
        tone(x, 8, 1, 1);
        int made = mix(x, "sheet lay 0 at 0 stem 0; end");
        x.sample(0, 0, 77);
        heard(x, made, 0, 1, 2);
        tell(x, "sheet lay 0 at 1 stem 0; end");
        x.make(made, 1, 0);
        heard(x, made, 0, 0, 0, 0, 0, 77, 2, 3, 4, 0);
        due("SHEET", x.about(made, 5), 1);

        about("a GENERATION (0, but of MIXED ones)");
        for (int kind = 0; kind < 7; kind++) {
            MixStage y = new MixStage();
            y.sound(2, 4, 0, 0);
            due("kind " + kind, y.about(tellKind(y, kind), 1), 0);
        }
        due("MIXED", x.about(made, 1), 1);
        due("TRIMMED of a MIXED one", x.about(x.trim(made, 0, 1), 1), 0);
    }

    private static void stamps() {
        about("Each telling that was not refused (a SOUND of any kind, a wave, a sample, a MARK, a making) is a STAMP, counted from 1 on");
        MixStage x = reel(2);
        due("none at first", x.count(3), 0);
        for (int kind = 0; kind < 7; kind++) {
            int number = kind == 0 ? x.sound(2, 4, 0, 0) : tellKind(x, kind);
            due("STAMP of a SOUND", x.about(number, 3), kind + 1);
            due("the last STAMP", x.count(3), kind + 1);
        }
        x.wave(0, 0, 1, 1, 1);
        due("a wave", x.about(0, 3), 8);
        x.sample(0, 0, 1);
        due("a sample", x.about(0, 3), 9);
        due("the last STAMP", x.count(3), 9);
        x.mark(0, 0);
        due("a MARK", x.count(3), 10);
        tell(x, "sheet lay 0 at 0 stem 0; end");
        due("a making", x.make(6, 0, 0), 11);
        due("a making", x.about(6, 3), 11);
        x.sample(0, 0, 1);
        x.again();
        due("a making again", x.about(6, 3), 13);
        due("the last STAMP", x.count(3), 13);

        about("STAMPS of tellings that are none, and of refused ones");
        x.mouth(0, 1);
        x.hisses(0, 1);
        tell(x, "rules end");
        x.edition();
        x.keep(0, 1);
        x.blank(1);
        x.again();
        x.sound(0, 0, 0, 0);
        x.trim(0, 1, 1);
        x.mute(6);
        x.wave(0, 0, 5, 1, 1);
        x.sample(0, 4, 1);
        x.mark(8, 0);
        x.make(6, 1, 0);
        due("the last STAMP", x.count(3), 13);

        about("A SOUND's STAMP is that of its last telling, a TRIMMED, MUTED one's that or that of its SOUND, if later");
        x = reel(1);
        x.sound(2, 4, 0, 0);
        int muted = x.mute(0);
        int trimmed = x.trim(muted, 0, 1);
        int mix = mix(x, "sheet lay " + trimmed + " at 0 stem 0; end");
        due("nothing later", x.about(mix, 4), 0);
        x.sample(0, 0, 1);
        due("its SOUND's SOUND told later", x.about(mix, 4), 1);
        due("of their own last telling alone", x.about(muted, 3), 2);
        due("of their own last telling alone", x.about(trimmed, 3), 3);
        due("made again", x.again(), 1);
        due("nothing later", x.about(mix, 4), 0);
    }
}
