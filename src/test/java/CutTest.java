/** The document's "V.", sentence by sentence: fates, LOUD, TAME, THE FIT, RIGHTS and what is OWED. */
public final class CutTest extends Kit {
    private static final int MOVED = 0;
    private static final int PARTED = 1;
    private static final int GONE = 2;
    private static final int OPEN = 3;

    public static void main(String[] args) {
        cueFrames();
        fates();
        louds();
        tames();
        tamesOfMany();
        fits();
        fitTies();
        rights();
        rightsOfLays();
        owed();
        finish("cuts");
    }

    /** A SHEET of six FRAMES that lays SOUND 0, with 8 SAMPLES, at FRAME 2; EDITION 1 of KEEPS a, b, a, b, .. (BLANKS: b NONE). */
    private static MixStage cut(int... keeps) {
        MixStage x = reel(6);
        tone(x, 8, 1, 1);
        tell(x, "sheet lay 0 at 2 stem 0; end");
        x.edition();
        for (int i = 0; i < keeps.length; i += 2) {
            int done = keeps[i + 1] < 0 ? x.blank(keeps[i]) : x.keep(keeps[i], keeps[i + 1]);
            due("PART " + i / 2, done > 0, true);
        }
        return x;
    }

    private static void fate(MixStage x, int edition, int fate, int goes) {
        due("fate", x.fate(0, 0, edition), fate);
        due("goes", x.goes(0, 0, edition), goes);
    }

    private static void cueFrames() {
        about("its FRAMES: those of the SHEET's EDITION in which it is HEARD (in one SAMPLE at least)");
        // a lay of so many SAMPLES at FRAME 1 of six; the cut has FRAMES 1 .. 2, then 2 .. 3
        int[][] fates = {{1, MOVED, 0}, {3, MOVED, 0}, {4, MOVED, 0}, {5, PARTED, 0}, {8, PARTED, 0}, {9, PARTED, 0}};
        for (int[] want : fates) {
            MixStage x = reel(6);
            tone(x, want[0], 0, 0);
            tell(x, "sheet lay 0 at 1 gain 0 stem 0; end");
            x.edition();
            x.keep(1, 2);
            due("fate of " + want[0] + " SAMPLES in FRAME 1", x.fate(0, 0, 1), want[1]);
            x.blank(1);
            x.keep(2, 3);
            due("fate of " + want[0] + " SAMPLES in FRAMES 1, 2", x.fate(0, 0, 1), want[1]);
            due("goes of " + want[0] + " SAMPLES", x.goes(0, 0, 1), want[2]);
        }
        String[] lays = {"lay 0 at 6", "lay 0 at 60", "lay 0 at 0 for 0", "lay 0 at 0 from 2", "lay 0 at mark 0 - 2", "lay 1 at 0",
            "lay 2 at 0", "lay 3 at 0", "lay 19 at 0"};
        for (String lay : lays) {
            MixStage x = reel(6);
            tone(x, 8, 1, 1);
            x.sound(0, -1, 0, 0);
            x.mixed();
            x.sound(1, -1, 0, 1);
            tell(x, "sheet " + lay + " stem 0; end");
            x.edition();
            x.keep(0, 6);
            fate(x, 0, GONE, -1);
            fate(x, 1, GONE, -1);
        }
        MixStage x = reel(6);
        x.sound(1, 1, 0, 1);
        tell(x, "sheet lay 0 at mark 0 for 2 stem 0; end");
        x.edition();
        x.keep(1, 2);
        x.keep(4, 6);
        fate(x, 1, PARTED, 0);
        x.mark(0, 4);
        fate(x, 1, MOVED, 1);
        x.mark(0, 5);
        fate(x, 1, MOVED, 2);
        x.mark(0, 6);
        fate(x, 1, GONE, -1);
        x.mark(0, 2);
        fate(x, 1, GONE, -1);
    }

    private static void fates() {
        about("GONE: none of them is in e. OPEN: one goes to more than one FRAME. MOVED: all of them go to FRAMES of e one behind the other"
                + " as they were. Else PARTED. (OPEN is asked ahead of the others; none at all: GONE.)");
        fate(cut(), 1, GONE, -1);
        fate(cut(0, 6), 1, MOVED, 2);
        fate(cut(0, 2, 4, 6), 1, GONE, -1);
        fate(cut(6, -1), 1, GONE, -1);
        fate(cut(2, 4), 1, MOVED, 0);
        fate(cut(5, -1, 2, 4), 1, MOVED, 5);
        fate(cut(2, 3, 3, 4), 1, MOVED, 0);
        fate(cut(0, 3, 3, 6), 1, MOVED, 2);
        fate(cut(2, 3), 1, PARTED, 0);
        fate(cut(3, 4), 1, PARTED, 0);
        fate(cut(0, 3), 1, PARTED, 2);
        fate(cut(3, 6), 1, PARTED, 0);
        fate(cut(3, 4, 2, 3), 1, PARTED, 0);
        fate(cut(2, 3, 1, -1, 3, 4), 1, PARTED, 0);
        fate(cut(2, 3, 0, 1, 3, 4), 1, PARTED, 0);
        fate(cut(2, 4, 2, 3), 1, OPEN, 0);
        fate(cut(2, 3, 2, 3), 1, OPEN, 0);
        fate(cut(0, 2, 3, 4, 1, -1, 3, 4), 1, OPEN, 2);
        fate(cut(2, 4, 0, 2, 4, 6), 1, MOVED, 0);
        fate(cut(3, 4, 2, 4), 1, OPEN, 0);

        about("A CUE (lay): no other has a fate");
        MixStage others = reel(2);
        tone(others, 8, 1, 1);
        tell(others, "sheet lay 0 at 0 stem 0; fade 0 from 0 to 1 gain 0, 0; dip 0 under 0 by 0 hold 0; taps 0 of 0; clip 0; end");
        for (int k = -1; k < 6; k++) {
            due("fate of CUE " + k, others.fate(0, k, 0), k == 0 ? 0 : -1);
            due("goes of CUE " + k, others.goes(0, k, 0), k == 0 ? 0 : -1);
        }

        about("in its own EDITION");
        fate(cut(), 0, MOVED, 2);

        about("through all EDITIONS between");
        MixStage x = cut(3, 4, 2, 3);
        x.edition();
        x.keep(1, 2);
        x.keep(0, 1);
        fate(x, 2, MOVED, 0);
        x.edition();
        x.keep(0, 1);
        x.keep(0, 2);
        fate(x, 3, OPEN, 0);
        fate(x, 1, PARTED, 0);
        x = reel(60);
        tone(x, 240, 1, 0);
        tell(x, "sheet lay 0 at 0 stem 0; end");
        x.edition();
        x.keep(0, 60);
        fate(x, 1, MOVED, 0);
        x.edition();
        x.keep(0, 59);
        fate(x, 2, PARTED, 0);
        x.edition();
        x.keep(1, 59);
        fate(x, 3, PARTED, 0);
        x = reel(3);
        tone(x, 4, 1, 0);
        tell(x, "sheet lay 0 at 0 stem 0; end");
        x.edition();
        x.keep(1, 3);
        fate(x, 1, GONE, -1);
        x.edition();
        x.keep(0, 1);
        fate(x, 2, GONE, -1);
        for (int f = 0; f < 5; f++) {
            x = reel(6);
            tone(x, 8, 1, 0);
            tell(x, "sheet lay 0 at " + f + " stem 0; end");
            x.edition();
            x.keep(f + 1, f + 2);
            x.keep(f, f + 1);
            fate(x, 1, PARTED, 0);
            x.edition();
            x.keep(1, 2);
            x.keep(0, 1);
            fate(x, 2, MOVED, 0);
        }
    }

    private static void louds() {
        about("LOUD of a SOUND by W FRAMES: of all rows of 4 * W SAMPLES that it has whole, beginning with SAMPLE 0, 4, 8, .."
                + " the greatest sum of SAMPLES without their signs; if it has none such: of all its SAMPLES");
        // n SAMPLES: 1 each, but the last is 100
        int[] sizes = {1, 3, 4, 5, 7, 8, 9, 11, 12, 13};
        int[] one = {100, 102, 103, 4, 4, 103, 4, 4, 103, 4};
        int[] two = {100, 102, 103, 104, 106, 107, 8, 8, 107, 8};
        int[] three = {100, 102, 103, 104, 106, 107, 108, 110, 111, 12};
        for (int i = 0; i < sizes.length; i++) {
            MixStage x = new MixStage();
            tone(x, sizes[i], 1, 0);
            x.sample(0, sizes[i] - 1, -100);
            due("1 FRAME of " + sizes[i], x.loud(0, 1), one[i]);
            due("2 FRAMES of " + sizes[i], x.loud(0, 2), two[i]);
            due("3 FRAMES of " + sizes[i], x.loud(0, 3), three[i]);
            due("4 FRAMES of " + sizes[i], x.loud(0, 4), sizes[i] + 99);
        }
        MixStage x = new MixStage();
        tone(x, 240, -9999, 0);
        due("60 FRAMES of 240", x.loud(0, 60), 240 * 9999);
        due("59 FRAMES of 240", x.loud(0, 59), 236 * 9999);
        due("61 FRAMES", x.loud(0, 61), -1);
        due("no FRAMES", x.loud(0, 0), -1);
        x.sample(0, 0, 0);
        due("beginning with SAMPLE 4", x.loud(0, 59), 236 * 9999);
        due("beginning with SAMPLE 0 alone", x.loud(0, 60), 239 * 9999);
        // a row that would begin with SAMPLE 2 is none
        x = new MixStage();
        tone(x, 8, 0, 0);
        x.wave(0, 2, 6, 10, 0);
        due("rows begin with 0 and 4", x.loud(0, 1), 20);
        due("both", x.loud(0, 2), 40);
        x.sound(0, -1, 0, 0);
        x.mixed();
        due("MISSING", x.loud(1, 1), 0);
        due("not made", x.loud(2, 60), 0);
        x.trim(0, 2, 6);
        due("TRIMMED", x.loud(3, 1), 40);
    }

    private static int tame(String rules, String lays) {
        MixStage x = reel(2);
        tone(x, 8, 100, 0);
        due("read", tell(x, "rules " + rules + " end"), 0);
        due("read", tell(x, "sheet " + lays + " end"), 0);
        return x.tame(0);
    }

    private static void tames() {
        about("TAME: so that the MIX is not louder than THE RULES' loud tells (\"loud m in w\": m hundreds)");
        String lay = "lay 0 at 0 stem 0;";
        // 400 in a FRAME, 800 in two, in three the same two
        due("just not louder", tame("loud 4 in 1;", lay), 0);
        due("louder", tame("loud 3 in 1;", lay), 1);
        due("just not louder at half", tame("loud 2 in 1;", lay), 1);
        due("louder at half", tame("loud 1 in 1;", lay), -2);
        due("louder by little", tame("loud 4 in 1;", "lay 0 at 0 gain 101 stem 0;"), 1);
        due("just not louder", tame("loud 8 in 2;", lay), 0);
        due("louder", tame("loud 7 in 2;", lay), 1);
        due("just not louder", tame("loud 8 in 3;", lay), 0);
        due("louder", tame("loud 7 in 60;", lay), 1);
        due("nothing", tame("loud 0 in 1;", lay), -2);
        due("nothing of nothing", tame("loud 0 in 1;", "lay 0 at 0 gain 0 stem 0;"), 0);
        due("nothing of 1", tame("loud 0 in 1;", "lay 0 at 0 gain 1 stem 0;"), 1);
        due("the greatest m", tame("loud 9999 in 1;", lay + lay + lay), 0);
        due("the first loud RULE", tame("right 1; loud 4 in 1; loud 0 in 1;", lay), 0);
        due("the first loud RULE", tame("loud 3 in 1; loud 9 in 1;", lay), 1);
        due("the first loud RULE", tame("right 1; right 2; loud 3 in 1; loud 9 in 1;", lay), 1);
        due("no loud RULE", tame("right 1;", lay), -1);
        due("no lays", tame("loud 0 in 1;", "clip 9;"), 0);
        MixStage x = new MixStage();
        tone(x, 8, 100, 0);
        x.edition();
        tell(x, "rules loud 0 in 1; end");
        tell(x, "sheet lay 0 at 0 stem 0; end");
        due("in an EDITION without FRAMES", x.tame(0), 0);
        due("no such SHEET", x.tame(1), -1);
        due("no such SHEET", x.tame(-1), -1);

        about("played at half their gain (by 2, rounded down)");
        due("103 at half: 204", tame("loud 2 in 1;", "lay 0 at 0 gain 103 stem 0;"), -2);
        due("101 at half: 200", tame("loud 2 in 1;", "lay 0 at 0 gain 101 stem 0;"), 1);
        due("102 at half: 204", tame("loud 2 in 1;", "lay 0 at 0 gain 102 stem 0;"), -2);
        due("400 at half: 800", tame("loud 8 in 1;", "lay 0 at 0 gain 400 stem 0;"), 1);

        about("the MIX: faders, dips, taps and clip count");
        due("a fader", tame("loud 2 in 1;", lay + "fade 0 from 0 to 0 gain 0, 50;"), 0);
        due("a dip", tame("loud 2 in 1;", lay + "dip 0 under 0 by 50 hold 0;"), 0);
        due("taps", tame("loud 3 in 1;", lay + "taps 0 of 150;"), 1);
        due("clip", tame("loud 0 in 1;", lay + lay + "clip 0;"), 0);
        due("what is against it", tame("loud 0 in 1;", "lay 0 at 0 gain 50 stem 0;"), -2);
    }

    private static void tamesOfMany() {
        about("the fewest lays of a SHEET (of the first 8)");
        String quiet = "lay 0 at 0 gain 0 stem 0;";
        String lay = "lay 0 at 0 stem 0;";
        due("the eighth", tame("loud 2 in 1;", times(7, quiet) + lay), 128);
        due("the ninth", tame("loud 2 in 1;", times(8, quiet) + lay), -2);
        due("the eighth of nine", tame("loud 6 in 1;", times(7, quiet) + lay + lay), 128);
        due("all eight", tame("loud 16 in 1;", times(8, lay)), 255);
        due("all eight", tame("loud 15 in 1;", times(8, lay)), -2);
        due("eight of nine", tame("loud 20 in 1;", times(9, lay)), 255);
        due("lays alone are counted", tame("loud 2 in 1;", times(7, quiet) + "clip 9999; fade 1 from 0 to 0 gain 1, 1;" + lay), 128);
        due("one rather than two", tame("loud 6 in 1;", "lay 0 at 0 gain 50 stem 0; lay 0 at 0 gain 50 stem 0; lay 0 at 0 gain 100 stem 0;"), 4);

        about("of these the first (as bits, the least lay that is not in both)");
        due("the first of all", tame("loud 10 in 1;", lay + lay + lay), 1);
        due("two of three", tame("loud 8 in 1;", lay + lay + lay), 3);
        // 1600, of which 400 go with 0 and 1, 0 and 2, 1 and 2, 1 and 3, 2 and 3
        String big = "lay 0 at 0 gain 120 stem 0;";
        String small = "lay 0 at 0 gain 80 stem 0;";
        due("0 and 1", tame("loud 12 in 1;", small + big + big + small), 3);
        due("0, 1 and 2", tame("loud 11 in 1;", small + big + big + small), 7);
        String four = "lay 0 at 0 gain 20 stem 0; lay 0 at 0 gain 90 stem 0; lay 0 at 0 gain 90 stem 0; lay 0 at 0 gain 160 stem 0;";
        // 1440, of which 40, 180, 180, 320 go: 340 with 3 and any, or with 1 and 2
        due("0 and 3 ahead of 1 and 2", tame("loud 11 in 1;", four), 1 + 8);
        due("no lay is in both", tame("loud 12 in 1;", four), 8);
        due("1 and 3 ahead of 2 and 3", tame("loud 10 in 1;", four), 2 + 8);
    }

    private static void fit(int slack, int[] one, int[] other, int lacking, int shift, int stretch) {
        MixStage x = new MixStage();
        line(x, one);
        line(x, other);
        due("not MET", x.fit(0, 1, slack, 0), lacking);
        due("shift", x.fit(0, 1, slack, 1), shift);
        due("stretch", x.fit(0, 1, slack, 2), stretch);
    }

    private static int[] at(int... frames) {
        return frames;
    }

    private static void fits() {
        about("with a shift s (-24 .. 24) and a stretch of 9, 10 or 11 tenths each MOUTH q of the first stands at s + q * stretch / 10");
        fit(0, at(0), at(24), 0, 24, 10);
        fit(0, at(0), at(25), 1, 0, 10);
        fit(0, at(24), at(0), 0, -21, 9);
        fit(0, at(25), at(0), 0, -22, 9);
        fit(0, at(26), at(0), 0, -23, 9);
        fit(0, at(27), at(0), 0, -24, 9);
        fit(0, at(28), at(0), 1, 0, 10);
        fit(0, at(10), at(35), 0, 24, 11);
        fit(0, at(10), at(36), 1, 0, 10);
        // rounded towards 0: 19 * 9 / 10 is 17, 19 * 11 / 10 is 20
        fit(0, at(0, 19), at(0, 17), 0, 0, 9);
        fit(0, at(0, 19), at(0, 20), 0, 0, 11);
        fit(0, at(0, 59), at(0, 53), 0, 0, 9);
        fit(0, at(0, 50), at(0, 55), 0, 0, 11);

        about("it is MET if one of the other's is not farther than the slack");
        for (int slack = 0; slack < 10; slack++) {
            fit(slack, at(30), at(30 + slack), 0, 0, 10);
            fit(slack, at(30), at(30 - slack), 0, 0, 10);
            MixStage x = new MixStage();
            line(x, 0);
            line(x, 25 + slack);
            line(x, 24 + slack);
            due("farther", x.fit(0, 1, slack, 0), 1);
            due("not farther", x.fit(0, 2, slack, 0), 0);
        }
        fit(0, at(1, 1, 1), at(1), 0, 0, 10);
        fit(0, at(), at(), 0, 0, 10);
        fit(0, at(), at(5), 0, 0, 10);
        fit(9, at(5), at(), 1, 0, 10);
        fit(9, at(0, 1, 2, 3, 4, 5, 6, 7), at(), 8, 0, 10);
        fit(0, at(0, 1, 2, 3, 4, 5, 6, 7), at(0, 1, 2, 3, 4, 5, 6, 7), 0, 0, 10);
        MixStage x = new MixStage();
        line(x, 0, 1, 2, 3, 4, 5, 6, 7);
        line(x, 5, 6, 7, 8, 9, 10, 11, 12);
        line(x);
        due("shift", x.fit(0, 1, 0, 1), 5);
        due("shift, none MET", x.fit(0, 2, 0, 1), 0);
        due("none MET", x.fit(0, 2, 0, 0), 8);
    }

    private static void fitTies() {
        about("THE FIT: the one in which the fewest are not MET");
        fit(0, at(0, 30), at(0, 20), 1, 0, 10);
        fit(0, at(0, 5, 9), at(0, 25, 29), 1, 20, 10);
        fit(0, at(5, 25, 29), at(5, 1, 5), 1, -21, 9);

        about("of these the least |s|");
        fit(0, at(0), at(3, 8), 0, 3, 10);
        fit(0, at(5), at(2, 9), 0, -2, 9);
        fit(0, at(20), at(18), 0, 0, 9);
        fit(0, at(20), at(22), 0, 0, 11);

        about("then s below 0");
        fit(0, at(20), at(17, 23), 0, -1, 9);
        fit(0, at(5), at(1, 9), 0, -3, 9);
        fit(0, at(5), at(9), 0, 4, 10);
        fit(0, at(2), at(0, 4), 0, -1, 9);

        about("then the stretch 10, 9, 11");
        fit(0, at(0), at(7), 0, 7, 10);
        fit(0, at(10), at(10, 9, 11), 0, 0, 10);
        fit(0, at(10), at(11, 9), 0, 0, 9);
        fit(0, at(10), at(11), 0, 0, 11);
        fit(1, at(10), at(12, 8), 0, 0, 9);
        fit(2, at(10), at(12, 8), 0, 0, 10);
    }

    /** A MUSIC of n SAMPLES 100 laid at FRAME 0 of sixty, one that is not 0 where told. */
    private static MixStage music(String lays) {
        MixStage x = reel(60);
        x.sound(3, 240, 3, 0);
        x.sound(3, 240, 4, 0);
        x.trim(0, 0, 8);
        x.trim(2, 4, 240);
        due("read", tell(x, "sheet " + lays + " end"), 0);
        return x;
    }

    private static void rights() {
        about("frames: how many FRAMES of the EDITION come from FRAMES in which a lay of it is HEARD and what that gives is not 0 in one SAMPLE"
                + " at least");
        MixStage x = music("lay 0 at 0 stem 0;");
        due("all 0", x.sounding(0, 0, 0), 0);
        x.sample(0, 0, 1);
        due("the first SAMPLE alone", x.sounding(0, 0, 0), 1);
        x.sample(0, 0, 0);
        x.sample(0, 239, 1);
        due("the last SAMPLE alone", x.sounding(0, 0, 0), 1);
        x.sample(0, 239, 0);
        x.sample(0, 3, 1);
        due("one SAMPLE", x.sounding(0, 0, 0), 1);
        x.sample(0, 0, -1);
        due("two of one FRAME", x.sounding(0, 0, 0), 1);
        x.sample(0, 4, 1);
        due("two FRAMES", x.sounding(0, 0, 0), 2);
        x.sample(0, 239, 1);
        due("the last FRAME", x.sounding(0, 0, 0), 3);
        x.wave(0, 0, 240, 9, 0);
        due("all FRAMES", x.sounding(0, 0, 0), 60);
        due("another MUSIC", x.sounding(0, 1, 0), 0);
        x.edition();
        due("an EDITION without FRAMES", x.sounding(0, 0, 1), 0);
        x.keep(0, 1);
        due("one kept", x.sounding(0, 0, 1), 1);
        x.keep(0, 1);
        x.blank(1);
        due("kept twice, and a BLANK", x.sounding(0, 0, 1), 2);
        x.keep(2, 59);
        due("60 in all", x.sounding(0, 0, 1), 59);

        x = music("lay 0 at 59 gain 50 stem 0; lay 0 at 0 for 1 gain 49 stem 1; lay 0 at 1 for 1 gain 0 stem 2;");
        x.wave(0, 0, 240, 2, 0);
        due("2 by 50 hundredths is 1, by 49 is 0", x.sounding(0, 0, 0), 1);
        x.wave(0, 0, 240, -3, 0);
        due("-3 by 49 hundredths is -1", x.sounding(0, 0, 0), 2);
        x = music("lay 0 at 0 for 2 stem 0; lay 0 at 1 for 2 stem 1; fade 0 from 0 to 0 gain 0, 0; clip 0;");
        x.wave(0, 0, 240, 1, 0);
        due("two lays over one another, faded and clipped", x.sounding(0, 0, 0), 3);

        about("RIGHTS of a MUSIC in a MIX (and of TRIMMED ones of it)");
        x = music("lay 2 at 0 stem 0; lay 3 at 30 stem 0;");
        x.wave(0, 0, 240, 1, 0);
        due("TRIMMED ones", x.sounding(0, 0, 0), 3);
        due("of another", x.sounding(0, 1, 0), 0);
        x.wave(0, 4, 240, 0, 0);
        due("as it is now", x.sounding(0, 0, 0), 1);
        due("a TRIMMED one is no MUSIC", x.sounding(0, 2, 0), -1);
        x = music("lay 4 at 0 stem 0;");
        x.wave(0, 0, 240, 1, 0);
        x.mixed();
        tell(x, "sheet lay 0 at 0 stem 0; end");
        x.make(4, 1, 0);
        due("by way of a MIXED one", x.sounding(0, 0, 0), 0);
    }

    private static void rule(MixStage x, String rule, int music, int edition, int want) {
        due("read() of " + rule, tell(x, "rules " + rule + " end"), 0);
        due("owed by " + rule, x.owed(0, music, edition, 5), want);
    }

    private static void rightsOfLays() {
        about("seconds: these by 24, rounded up");
        int[][] seconds = {{0, 0}, {1, 1}, {23, 1}, {24, 1}, {25, 2}, {47, 2}, {48, 2}, {49, 3}, {60, 3}};
        for (int[] one : seconds) {
            MixStage x = music("lay 0 at 0 stem 0;");
            x.wave(0, 0, 4 * one[0], 5, 0);
            rule(x, "right frames;", 0, 0, one[0]);
            rule(x, "right seconds;", 0, 0, one[1]);
        }

        about("heard: how many lays of these the SHEET has");
        MixStage x = music("lay 0 at 0 stem 0; lay 1 at 0 stem 0; lay 2 at 0 stem 0; lay 3 at 60 for 0 gain 0 stem 0; lay 0 at 0 stem 1; clip 1;");
        rule(x, "right heard;", 0, 0, 4);
        rule(x, "right heard;", 1, 0, 1);
        x = music("clip 1; fade 0 from 0 to 0 gain 1, 1; lay 1 at 0 stem 0;");
        rule(x, "right heard;", 0, 0, 0);
        x = music("lay 4 at 0 stem 0;");
        x.mixed();
        rule(x, "right heard;", 0, 0, 0);

        about("land as asked; owner its OWNER");
        x = music("lay 0 at 0 stem 0;");
        for (int land = 0; land < 10; land++) {
            due("read", tell(x, "rules right owner * 10 + land; end"), 0);
            due("owed", x.owed(0, 0, 0, land), 30 + land);
            due("owed", x.owed(0, 1, 0, land), 40 + land);
        }
        due("land -1", x.owed(0, 0, 0, -1), -1);
        due("land 10", x.owed(0, 0, 0, 10), -1);
    }

    private static void owed() {
        about("OWED: the E of the first right RULE that holds, held to 0 .. 999999; 0 without");
        MixStage x = music("lay 0 at 0 stem 0;");
        due("no RULES", x.owed(0, 0, 0, 0), 0);
        rule(x, "loud 1 in 1;", 0, 0, 0);
        rule(x, "right 0;", 0, 0, 0);
        rule(x, "right 1;", 0, 0, 1);
        rule(x, "right 0 - 1;", 0, 0, 0);
        rule(x, "right 0 - 9999 * 9999;", 0, 0, 0);
        rule(x, "right 1000 * 1000 - 2;", 0, 0, 999998);
        rule(x, "right 1000 * 1000 - 1;", 0, 0, 999999);
        rule(x, "right 1000 * 1000;", 0, 0, 999999);
        rule(x, "right 1000 * 1000 + 1;", 0, 0, 999999);
        rule(x, "right 1; right 2;", 0, 0, 1);
        rule(x, "right 1 if 1 == 2; right 2;", 0, 0, 2);
        rule(x, "right 1 if 1 == 2; right 2 if 2 == 3;", 0, 0, 0);
        rule(x, "right 0 - 5 if 1 == 1; right 2;", 0, 0, 0);
        rule(x, "right 0; right 2;", 0, 0, 0);
        rule(x, times(6, "loud 1 in 1;") + times(5, "right 1 if 1 == 2;") + "right 7;", 0, 0, 7);
        rule(x, "right 1 if land == 5; right 2;", 0, 0, 1);
        rule(x, "right 1 if land != 5; right 2;", 0, 0, 2);
        rule(x, "right 5 / (frames - seconds - heard + 1); right 2;", 0, 0, 2);
        due("nothing is kept of an owed ahead", x.owed(0, 1, 0, 0), 5);
    }
}
