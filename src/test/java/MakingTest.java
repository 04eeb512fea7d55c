/** The document's "IV. A MIX" and making, sentence by sentence: where each CUE begins and ends, roundings, what is STALE. */
public final class MakingTest extends Kit {
    public static void main(String[] args) {
        lays();
        laysRounded();
        loops();
        fades();
        fadesThatEndAtOnce();
        dips();
        dipsUnder();
        taps();
        clips();
        wideSums();
        allStems();
        laterEditions();
        makings();
        hisses();
        leanings();
        staleOnes();
        staleMarks();
        refusedSheets();
        finish("making");
    }

    /** A stage of so many FRAMES with SOUND 0 of n SAMPLES 1, 2, .. */
    private static MixStage steps(int frames, int n) {
        MixStage x = reel(frames);
        tone(x, n, 1, 1);
        return x;
    }

    /** A stage of so many FRAMES with SOUND 0 of 100 all along, and SOUND 1 of n SAMPLES 1000. */
    private static MixStage hundreds(int frames, int n) {
        MixStage x = reel(frames);
        tone(x, 4 * frames, 100, 0);
        tone(x, n, 1000, 0);
        return x;
    }

    private static void mixed(MixStage x, String sheet, int... want) {
        int sound = mix(x, "sheet " + sheet + " end");
        due("length", x.length(sound), 4 * x.frames(x.count(0) - 1));
        heard(x, sound, 0, want);
    }

    private static void lays() {
        about("lay s at f: from t = 4 * f on, for 4 times \"for\" SAMPLES (without: to the end)");
        mixed(steps(3, 5), "lay 0 at 0 stem 0;", 1, 2, 3, 4, 5, 0, 0, 0, 0, 0, 0, 0, 0);
        mixed(steps(3, 5), "lay 0 at 1 stem 0;", 0, 0, 0, 0, 1, 2, 3, 4, 5, 0, 0, 0, 0);
        mixed(steps(3, 5), "lay 0 at 2 stem 0;", 0, 0, 0, 0, 0, 0, 0, 0, 1, 2, 3, 4, 0);
        mixed(steps(3, 5), "lay 0 at 3 stem 0;", 0, 0, 0, 0, 0, 0, 0, 0, 0, 0, 0, 0, 0);
        mixed(steps(3, 9), "lay 0 at 0 for 0 stem 0;", 0, 0, 0, 0, 0, 0, 0, 0, 0, 0, 0, 0);
        mixed(steps(3, 9), "lay 0 at 0 for 1 stem 0;", 1, 2, 3, 4, 0, 0, 0, 0, 0, 0, 0, 0);
        mixed(steps(3, 9), "lay 0 at 1 for 1 stem 0;", 0, 0, 0, 0, 1, 2, 3, 4, 0, 0, 0, 0);
        mixed(steps(3, 9), "lay 0 at 0 for 60 stem 0;", 1, 2, 3, 4, 5, 6, 7, 8, 9, 0, 0, 0);
        mixed(steps(2, 12), "lay 0 at mark 0 - 1 for 2 stem 0;", 5, 6, 7, 8, 0, 0, 0, 0);
        mixed(steps(2, 12), "lay 0 at mark 0 - 2 for 2 stem 0;", 0, 0, 0, 0, 0, 0, 0, 0);
        mixed(steps(60, 240), "lay 0 at 59 stem 0;");
        MixStage x = steps(60, 240);
        int last = mix(x, "sheet lay 0 at 59 stem 0; end");
        heard(x, last, 234, 0, 0, 1, 2, 3, 4, 0);

        about("o: four times from (0)");
        mixed(steps(2, 9), "lay 0 at 0 from 0 stem 0;", 1, 2, 3, 4, 5, 6, 7, 8, 0);
        mixed(steps(2, 9), "lay 0 at 0 from 1 stem 0;", 5, 6, 7, 8, 9, 0, 0, 0, 0);
        mixed(steps(2, 9), "lay 0 at 1 from 2 stem 0;", 0, 0, 0, 0, 9, 0, 0, 0, 0);
        mixed(steps(2, 8), "lay 0 at 0 from 2 stem 0;", 0, 0, 0, 0, 0, 0, 0, 0, 0);
        mixed(steps(2, 240), "lay 0 at 0 from 59 stem 0;", 237, 238, 239, 240, 0);
        mixed(steps(2, 240), "lay 0 at 0 from 60 stem 0;", 0, 0);
        mixed(steps(2, 9), "lay 0 at mark 0 - 1 from 1 stem 0;", 9, 0, 0);

        about("a lay of a SOUND that is not there, is MISSING, not made or MUTED gives nothing");
        x = reel(1);
        x.sound(2, -1, 0, 0);
        x.mixed();
        x.sound(2, 4, 0, 0);
        x.wave(2, 0, 4, 9, 0);
        x.mute(2);
        x.sound(1, -1, 0, 1);
        mixed(x, "lay 0 at 0 stem 0; lay 1 at 0 stem 0; lay 3 at 0 stem 0; lay 4 at 0 stem 0;", 0, 0, 0, 0, 0);
        tell(x, "sheet lay 19 at 0 stem 0; end");
        due("sounding of what is not there", x.sounding(1, x.sound(3, 4, 0, 0), 0), 0);
        due("fate of what is not there", x.fate(1, 0, 0), 2);
    }

    private static void laysRounded() {
        about("SAMPLE o + (t - 4 * f) * u / v of SOUND s, u / v: speed (1 / 1)");
        mixed(steps(3, 30), "lay 0 at 0 speed 1/1 stem 0;", 1, 2, 3, 4, 5, 6, 7, 8, 9, 10, 11, 12);
        mixed(steps(3, 30), "lay 0 at 0 speed 9/1 stem 0;", 1, 10, 19, 28, 0, 0);
        mixed(steps(3, 30), "lay 0 at 0 speed 1/9 stem 0;", 1, 1, 1, 1, 1, 1, 1, 1, 1, 2, 2, 2, 0);
        mixed(steps(3, 30), "lay 0 at 0 speed 3/2 stem 0;", 1, 2, 4, 5, 7, 8, 10, 11, 13, 14, 16, 17, 0);
        mixed(steps(3, 30), "lay 0 at 1 from 1 for 1 speed 2/3 stem 0;", 0, 0, 0, 0, 5, 5, 6, 7, 0, 0, 0, 0);
        mixed(steps(2, 30), "lay 0 at mark 0 - 1 speed 5/3 stem 0;", 7, 9, 11, 12, 14, 16, 17, 19, 0);
        mixed(steps(2, 4), "lay 0 at 0 speed 1/2 stem 0;", 1, 1, 2, 2, 3, 3, 4, 4, 0);
        mixed(steps(3, 4), "lay 0 at 0 speed 1/2 stem 0;", 1, 1, 2, 2, 3, 3, 4, 4, 0, 0, 0, 0, 0);

        about("times g, by 100: gain (100 without)");
        MixStage x = reel(2);
        tone(x, 8, -7, 2);
        mixed(x, "lay 0 at 0 gain 50 stem 0;", -3, -2, -1, 0, 0, 1, 2, 3);
        mixed(x, "lay 0 at 0 gain 99 stem 0;", -6, -4, -2, 0, 0, 2, 4, 6);
        mixed(x, "lay 0 at 0 gain 100 stem 0;", -7, -5, -3, -1, 1, 3, 5, 7);
        mixed(x, "lay 0 at 0 stem 0;", -7, -5, -3, -1, 1, 3, 5, 7);
        mixed(x, "lay 0 at 0 gain 400 stem 0;", -28, -20, -12, -4, 4, 12, 20, 28);
        mixed(x, "lay 0 at 0 gain 0 stem 0;", 0, 0, 0, 0, 0, 0, 0, 0);
        // each lay is rounded by itself: -3 and -3
        mixed(x, "lay 0 at 0 gain 50 stem 0; lay 0 at 0 gain 50 stem 0;", -6, -4, -2, 0, 0, 2, 4, 6);
    }

    private static void loops() {
        about("of a LOOP: from b on it goes round: a + (that - a) % (b - a)");
        MixStage x = reel(3);
        x.sound(1, 8, 2, 5);
        x.wave(0, 0, 8, 1, 1);
        mixed(x, "lay 0 at 0 stem 0;", 1, 2, 3, 4, 5, 3, 4, 5, 3, 4, 5, 3, 0);
        mixed(x, "lay 0 at 0 from 1 stem 0;", 5, 3, 4, 5, 3, 4, 5, 3, 4, 5, 3, 4, 0);
        mixed(x, "lay 0 at 0 from 60 for 1 stem 0;", 4, 5, 3, 4, 0);
        mixed(x, "lay 0 at 1 for 1 speed 3/1 stem 0;", 0, 0, 0, 0, 1, 4, 4, 4, 0);
        mixed(x, "lay 0 at mark 0 - 60 for 60 stem 0;", 0, 0);
        mixed(x, "lay 0 at mark 0 - 60 stem 0;", 4, 5, 3);
        x = reel(2);
        x.sound(1, 8, 0, 8);
        x.wave(0, 0, 8, 1, 1);
        x.sound(1, 8, 7, 8);
        x.wave(1, 0, 8, 1, 1);
        mixed(x, "lay 0 at 0 from 1 stem 0;", 5, 6, 7, 8, 1, 2, 3, 4, 0);
        mixed(x, "lay 1 at 0 from 1 stem 0;", 5, 6, 7, 8, 8, 8, 8, 8, 0);
    }

    private static void fades() {
        about("from SAMPLE 4 * from to 4 * to the first gain comes to the second one evenly; from there on the second; without one 100");
        MixStage x = hundreds(4, 1);
        mixed(x, "lay 0 at 0 stem 0; fade 0 from 1 to 2 gain 0, 100;", 100, 100, 100, 100, 0, 25, 50, 75, 100, 100, 100, 100, 100);
        mixed(x, "lay 0 at 0 stem 0; fade 0 from 1 to 2 gain 10, 0;", 100, 100, 100, 100, 10, 8, 5, 3, 0, 0, 0, 0, 0, 0, 0, 0);
        mixed(x, "lay 0 at 0 stem 0; fade 0 from 0 to 3 gain 400, 389;", 400, 400, 399, 398, 397, 396, 395, 394, 393, 392, 391, 390,
                389, 389, 389, 389);
        mixed(x, "lay 0 at 0 stem 0; fade 0 from mark 0 - 1 to 1 gain 0, 80;", 40, 50, 60, 70, 80, 80);
        mixed(x, "lay 0 at 0 stem 0; fade 0 from mark 0 - 2 to mark 0 - 1 gain 0, 80;", 80, 80);
        mixed(x, "lay 0 at 0 stem 0; fade 0 from 3 to 60 gain 57, 0;", 100, 100, 100, 100, 100, 100, 100, 100, 100, 100, 100, 100,
                57, 57, 57, 57);
        mixed(x, "lay 0 at 0 stem 0; fade 0 from 4 to 5 gain 0, 0;", 100, 100, 100, 100, 100, 100, 100, 100, 100, 100, 100, 100, 100,
                100, 100, 100);
        mixed(x, "lay 0 at 0 stem 0; fade 1 from 0 to 0 gain 0, 0; fade 2 from 0 to 0 gain 0, 0;", 100, 100);

        about("FRAMES that are INTS hang on no MARK");
        MixStage z = hundreds(3, 1);
        for (int m = 0; m < 8; m++) {
            z.mark(m, 40 + m);
        }
        mixed(z, "lay 0 at 0 stem 0; fade 0 from 1 to 2 gain 0, 80;", 100, 100, 100, 100, 0, 20, 40, 60, 80, 80, 80, 80);
        mixed(z, "lay 0 at 0 stem 0; fade 0 from mark 3 - 42 to 2 gain 0, 80;", 100, 100, 100, 100, 0, 20, 40, 60, 80, 80, 80, 80);
        mixed(z, "lay 0 at 0 stem 0; fade 0 from 1 to mark 3 - 41 gain 0, 80;", 100, 100, 100, 100, 0, 20, 40, 60, 80, 80, 80, 80);
        mixed(z, "lay 0 at 1 for 1 stem 0;", 0, 0, 0, 0, 100, 100, 100, 100, 0, 0, 0, 0);

        about("the last fade, in order, of that STEM that has begun (from's FRAME not behind t)");
        x = hundreds(3, 1);
        mixed(x, "lay 0 at 0 stem 1; fade 1 from 0 to 0 gain 1, 1; fade 1 from 1 to 1 gain 2, 2; fade 1 from 2 to 2 gain 3, 3;",
                1, 1, 1, 1, 2, 2, 2, 2, 3, 3, 3, 3);
        // in order of the SHEET, not of their FRAMES
        MixStage y = hundreds(3, 1);
        mixed(y, "lay 0 at 0 stem 1; fade 1 from 2 to 2 gain 3, 3; fade 1 from 1 to 1 gain 2, 2; fade 0 from 0 to 0 gain 0, 0;",
                100, 100, 100, 100, 2, 2, 2, 2, 2, 2, 2, 2);
        mixed(y, "fade 2 from 0 to 2 gain 0, 80; lay 0 at 0 stem 2; fade 2 from 1 to 1 gain 7, 7;", 0, 10, 20, 30, 7, 7, 7, 7, 7);
        mixed(y, "lay 0 at 0 stem 0; fade 0 from mark 0 - 1 to 0 gain 1, 1; fade 0 from 0 to 0 gain 2, 2;", 2, 2, 2, 2, 2);

        about("What a STEM is given together goes through its fader: times that, by 100");
        x = reel(1);
        tone(x, 4, 1, 0);
        tone(x, 4, -3, 0);
        mixed(x, "lay 0 at 0 stem 0; lay 0 at 0 stem 0; fade 0 from 0 to 0 gain 0, 50;", 1, 1, 1, 1, 0);
        mixed(x, "lay 0 at 0 stem 0; lay 0 at 0 stem 1; fade 0 from 0 to 0 gain 0, 50; fade 1 from 0 to 0 gain 0, 50;", 0, 0);
        mixed(x, "lay 1 at 0 stem 0; fade 0 from 0 to 0 gain 0, 50;", -1, -1);
    }

    private static void fadesThatEndAtOnce() {
        about("a fade whose to is not behind its from: the second at once");
        MixStage x = hundreds(3, 1);
        mixed(x, "lay 0 at 0 stem 0; fade 0 from 1 to 1 gain 7, 50;", 100, 100, 100, 100, 50, 50, 50, 50, 50, 50, 50, 50);
        mixed(x, "lay 0 at 0 stem 0; fade 0 from 1 to 0 gain 7, 50;", 100, 100, 100, 100, 50, 50, 50, 50, 50, 50, 50, 50);
        mixed(x, "lay 0 at 0 stem 0; fade 0 from 2 to mark 0 gain 7, 50;", 100, 100, 100, 100, 100, 100, 100, 100, 50, 50, 50, 50);
        mixed(x, "lay 0 at 0 stem 0; fade 0 from 0 to 0 gain 7, 0;", 0, 0, 0, 0, 0, 0, 0, 0, 0, 0, 0, 0);
        x.mark(0, 3);
        x.again();
        due("to is behind from now", x.heard(x.count(1) - 2, 8), 7);
    }

    private static void dips() {
        about("dip: if some lay of STEM y was HEARD in a SAMPLE from t - 4 * h to t");
        // SOUND 1 is HEARD in SAMPLES 4 and 5
        MixStage x = hundreds(4, 2);
        String lays = "lay 0 at 0 stem 0; lay 1 at 1 gain 0 stem 1; ";
        mixed(x, lays + "dip 0 under 1 by 30 hold 0;", 100, 100, 100, 100, 70, 70, 100, 100, 100, 100, 100, 100, 100, 100, 100, 100);
        mixed(x, lays + "dip 0 under 1 by 30 hold 1;", 100, 100, 100, 100, 70, 70, 70, 70, 70, 70, 100, 100, 100, 100, 100, 100);
        mixed(x, lays + "dip 0 under 1 by 30 hold 2;", 100, 100, 100, 100, 70, 70, 70, 70, 70, 70, 70, 70, 70, 70, 100, 100);
        mixed(x, lays + "dip 0 under 1 by 30 hold 60;", 100, 100, 100, 100, 70, 70, 70, 70, 70, 70, 70, 70, 70, 70, 70, 70);
        x = hundreds(60, 1);
        int early = mix(x, "sheet lay 0 at 0 stem 0; lay 1 at 0 gain 0 stem 1; dip 0 under 1 by 30 hold 59; end");
        heard(x, early, 0, 70);
        heard(x, early, 235, 70, 70, 100, 100, 100, 0);

        about("times (100 - d), by 100 (0 if d is above 100)");
        int[] by = {0, 1, 99, 100, 101, 400};
        int[] left = {100, 99, 1, 0, 0, 0};
        for (int i = 0; i < 6; i++) {
            mixed(hundreds(1, 1), "lay 0 at 0 stem 0; dip 0 under 0 by " + by[i] + " hold 0;", left[i], left[i], left[i], left[i], 0);
        }
        x = reel(1);
        tone(x, 4, -3, 2);
        mixed(x, "lay 0 at 0 stem 0; dip 0 under 0 by 50 hold 0;", -1, 0, 0, 1, 0);
        mixed(x, "lay 0 at 0 stem 0; dip 0 under 0 by 101 hold 0;", 0, 0, 0, 0, 0);

        about("dips, in order");
        x = reel(1);
        tone(x, 4, 99, 0);
        // 99 by 50: 49, by 67: 32; the other way: 66, 33
        mixed(x, "lay 0 at 0 stem 0; dip 0 under 0 by 50 hold 0; dip 0 under 0 by 33 hold 0;", 32, 32, 32, 32);
        mixed(x, "lay 0 at 0 stem 0; dip 0 under 0 by 33 hold 0; dip 0 under 0 by 50 hold 0;", 33, 33, 33, 33);
    }

    private static void dipsUnder() {
        about("(It is HEARD there if that SAMPLE is there.)");
        MixStage x = hundreds(2, 1);
        String dip = "dip 0 under 1 by 50 hold 0; lay 0 at 0 stem 0; ";
        mixed(x, dip + "lay 1 at 1 stem 1; fade 1 from 0 to 0 gain 0, 0;", 100, 100, 100, 100, 50, 100, 100, 100);
        mixed(x, dip + "lay 1 at 0 for 0 stem 1;", 100, 100);
        mixed(x, dip + "lay 1 at 0 from 1 stem 1;", 100, 100);
        mixed(x, dip + "lay 1 at 0 stem 2; clip 100;", 100, 100);
        mixed(x, "lay 0 at 0 stem 1; dip 1 under 0 by 50 hold 60; dip 1 under 2 by 50 hold 60;", 100, 100);
        mixed(x, dip + "lay 1 at 0 gain 0 speed 1/3 stem 1;", 50, 50, 50, 100, 100);
        x = hundreds(2, 1);
        x.sound(2, 2, 0, 0);
        x.mute(2);
        x.sound(2, -1, 0, 0);
        mixed(x, dip + "lay 3 at 0 stem 1;", 50, 50, 100, 100);
        mixed(x, dip + "lay 4 at 0 stem 1;", 100, 100, 100, 100);
        x.trim(0, 7, 9);
        x.mixed();
        mixed(x, dip + "lay 7 at 0 gain 0 stem 1;", 50, 100, 100);
        mixed(x, dip + "lay 8 at 0 gain 0 stem 1;", 100, 100, 100);

        about("a lay ahead of SAMPLE 0 is HEARD in no SAMPLE");
        x = hundreds(2, 2);
        mixed(x, "lay 0 at 0 stem 0; lay 1 at mark 0 - 1 stem 1; dip 0 under 1 by 50 hold 60;", 100, 100, 100, 100, 100, 100, 100, 100);
        mixed(x, "lay 0 at 0 stem 0; lay 1 at mark 0 - 1 gain 0 speed 1/4 stem 1; dip 0 under 1 by 50 hold 0;", 50, 50, 50, 50, 100);

        about("of STEM x under STEM y");
        for (int y = 0; y < 3; y++) {
            MixStage z = hundreds(1, 4);
            z.sound(0, 4, 0, 0);
            z.wave(2, 0, 4, 10, 0);
            int mix = mix(z, "sheet lay 0 at 0 stem 0; lay 1 at 0 stem 1; lay 2 at 0 stem 2; dip " + y + " under " + (y + 1) % 3
                    + " by 50 hold 0; end");
            due("dip of STEM " + y, z.heard(mix, 0), 1110 - new int[] {50, 500, 5}[y]);
        }
    }

    private static void taps() {
        about("taps: what it has (by then) in t times w0, in t - 1 times w1, .., together, by 100; ahead of SAMPLE 0 it has 0");
        MixStage x = reel(2);
        tone(x, 4, 100, 100);
        mixed(x, "lay 0 at 0 stem 0; taps 0 of 100;", 100, 200, 300, 400, 0, 0, 0, 0);
        mixed(x, "lay 0 at 0 stem 0; taps 0 of 0;", 0, 0, 0, 0, 0);
        mixed(x, "lay 0 at 0 stem 0; taps 0 of 0, 100;", 0, 100, 200, 300, 400, 0, 0, 0);
        mixed(x, "lay 0 at 0 stem 0; taps 0 of 0, 0, 0, 100;", 0, 0, 0, 100, 200, 300, 400, 0, 0);
        mixed(x, "lay 0 at 0 stem 0; taps 0 of 1, 20, 300, 400;", 1, 22, 343, 1064, 1780, 2400, 1600, 0, 0);
        mixed(x, "lay 0 at 1 stem 0; taps 0 of 0, 0, 100;", 0, 0, 0, 0, 0, 0, 100, 200, 0);
        MixStage y = reel(1);
        tone(y, 4, 1, 0);
        tone(y, 4, -1, 0);
        mixed(y, "lay 0 at 0 stem 0; taps 0 of 50, 50;", 0, 1, 1, 1, 0);
        mixed(y, "lay 1 at 0 stem 0; taps 0 of 50, 49, 1;", 0, 0, -1, -1, 0);

        about("taps, in order: of a STEM");
        y = reel(1);
        tone(y, 4, 3, 0);
        // 3 by 50: 1, by 200: 2; the other way: 6, 3
        mixed(y, "lay 0 at 0 stem 0; taps 0 of 50; taps 0 of 200;", 2, 2, 2, 2);
        mixed(y, "lay 0 at 0 stem 0; taps 0 of 200; taps 0 of 50;", 3, 3, 3, 3);
        mixed(y, "lay 0 at 0 stem 0; taps 1 of 200; taps 2 of 200;", 3, 3, 3, 3);
        mixed(y, "lay 0 at 0 stem 2; lay 0 at 0 stem 1; taps 1 of 200; taps 2 of 100, 100;", 9, 12, 12, 12);
        mixed(y, "lay 0 at 0 stem 0; taps 0 of 100, 100; taps 0 of 100, 100;", 3, 9, 12, 12);

        about("Then dips .. Then taps: behind faders, whatever their order in the SHEET");
        y = reel(1);
        tone(y, 4, 3, 0);
        mixed(y, "taps 0 of 0, 100; dip 0 under 0 by 50 hold 0; fade 0 from 0 to 0 gain 0, 200; lay 0 at 0 stem 0;", 0, 3, 3, 3);
        mixed(y, "taps 0 of 200; fade 0 from 0 to 0 gain 0, 50; lay 0 at 0 stem 0;", 2, 2, 2, 2);
        mixed(y, "dip 0 under 0 by 0 hold 0; taps 0 of 200; dip 0 under 0 by 50 hold 0; lay 0 at 0 stem 0;", 2, 2, 2, 2);
    }

    private static void clips() {
        about("Then all STEMS together, held to the last clip (9999 without) and its opposite");
        MixStage x = reel(1);
        tone(x, 4, 9999, -6666);
        mixed(x, "lay 0 at 0 stem 0;", 9999, 3333, -3333, -9999);
        mixed(x, "lay 0 at 0 stem 0; lay 0 at 0 stem 1;", 9999, 6666, -6666, -9999);
        mixed(x, "lay 0 at 0 stem 0; lay 0 at 0 stem 1; lay 0 at 0 stem 2; clip 9999;", 9999, 9999, -9999, -9999);
        mixed(x, "lay 0 at 0 stem 0; clip 3333;", 3333, 3333, -3333, -3333);
        mixed(x, "lay 0 at 0 stem 0; clip 3332;", 3332, 3332, -3332, -3332);
        mixed(x, "lay 0 at 0 stem 0; clip 0;", 0, 0, 0, 0);
        mixed(x, "clip 5; lay 0 at 0 stem 0; clip 0;", 0, 0, 0, 0);
        mixed(x, "clip 0; lay 0 at 0 stem 0; clip 5000;", 5000, 3333, -3333, -5000);
        // held together, not STEM by STEM
        MixStage y = reel(1);
        tone(y, 4, 9999, 0);
        tone(y, 4, -9999, 0);
        mixed(y, "lay 0 at 0 gain 200 stem 0; lay 1 at 0 stem 1; clip 9998;", 9998, 9998);
        mixed(y, "lay 0 at 0 gain 400 stem 0; lay 1 at 0 gain 399 stem 2;", 100, 100, 100, 100, 0);
    }

    private static void wideSums() {
        about("sums are of 64 bits");
        MixStage x = reel(1);
        tone(x, 4, 9999, 0);
        // 39996 * 4 (fader) * 4 to the 4, then times 400 is more than 32 bits hold
        mixed(x, "lay 0 at 0 gain 400 stem 0; fade 0 from 0 to 0 gain 0, 400;" + times(6, "taps 0 of 400;") + times(3, "taps 0 of 1;")
                + "clip 9999;", 655, 655, 655, 655);
        mixed(x, "lay 0 at 0 gain 400 stem 0; lay 0 at 0 gain 400 stem 1;" + times(6, "taps 0 of 400;") + times(6, "taps 1 of 400;"),
                9999, 9999, 9999, 9999);
        int low = tone(x, 4, -9999, 0);
        mixed(x, "lay " + low + " at 0 gain 400 stem 0;" + times(12, "taps 0 of 400;"), -9999, -9999, -9999, -9999);
        // from the 21st on what is times 400 is more than 64 bits hold: that wraps
        for (int n = 20; n < 40; n++) {
            x = reel(1);
            tone(x, 4, 9999, 0);
            int mix = mix(x, "block a " + times(10, "taps 0 of 400;") + "end sheet lay 0 at 0 gain 400 stem 0;"
                    + times(n / 10, "use a at 0;") + times(n % 10, "taps 0 of 400;") + "end");
            long value = 39996;
            for (int i = 0; i < n; i++) {
                value = value * 400 / 100;
            }
            due("behind " + n + " taps", x.heard(mix, 3), Math.max(-9999, Math.min(9999, value)));
        }
    }

    private static void allStems() {
        about("the last SAMPLE of 60 FRAMES and the first one, in all STEMS");
        MixStage x = reel(60);
        for (int stem = 0; stem < 3; stem++) {
            x.sound(1, 1, 0, 1);
            x.sample(stem, 0, new int[] {1000, 100, 10}[stem]);
        }
        String lays = "lay 0 at 0 stem 0; lay 1 at 0 stem 1; lay 2 at 0 stem 2; lay 0 at 0 gain 0 stem 0; lay 1 at 0 gain 0 stem 1; ";
        int plain = mix(x, "sheet " + lays + "end");
        heard(x, plain, 0, 1110, 1110);
        heard(x, plain, 238, 1110, 1110, 0);
        String fades = "fade 0 from 0 to 60 gain 200, 200; fade 1 from 0 to 60 gain 300, 300; fade 2 from 0 to 60 gain 400, 400; ";
        int faded = mix(x, "sheet " + fades + lays + "end");
        heard(x, faded, 0, 2340, 2340);
        heard(x, faded, 238, 2340, 2340, 0);
        int dipped = mix(x, "sheet " + lays + "dip 0 under 1 by 50 hold 60; dip 1 under 2 by 90 hold 60; end");
        heard(x, dipped, 0, 520, 520);
        heard(x, dipped, 238, 520, 520, 0);
        int tapped = mix(x, "sheet " + lays + "taps 0 of 0, 50; taps 1 of 0, 0, 200; taps 2 of 0, 100; end");
        heard(x, tapped, 0, 0, 510, 710, 710);
        heard(x, tapped, 238, 710, 710, 0);
    }

    private static void laterEditions() {
        about("The MIX of a SHEET for a later EDITION e: SAMPLE k of a FRAME of e is that of the FRAME from which it comes; 0 in a BLANK");
        MixStage x = steps(3, 12);
        tell(x, "sheet lay 0 at 0 stem 0; end");
        x.edition();
        x.keep(2, 3);
        x.blank(1);
        x.keep(0, 1);
        x.keep(2, 3);
        int mix = x.mixed();
        x.make(mix, 0, 1);
        due("length", x.length(mix), 16);
        heard(x, mix, -1, 0, 9, 10, 11, 12, 0, 0, 0, 0, 1, 2, 3, 4, 9, 10, 11, 12, 0);
        x.make(mix, 0, 0);
        due("in its own", x.length(mix), 12);
        heard(x, mix, 0, 1, 2, 3, 4, 5, 6, 7, 8, 9, 10, 11, 12, 0);
        tell(x, "sheet lay 0 at 0 stem 0; end");
        x.make(mix, 1, 1);
        heard(x, mix, 0, 1, 2, 3, 4, 5, 6, 7, 8, 9, 10, 11, 12, 0);
        due("length", x.length(mix), 16);
        x.edition();
        x.make(mix, 1, 2);
        due("for an EDITION without FRAMES", x.length(mix), 0);
        heard(x, mix, 0, 0);
        tell(x, "sheet lay 0 at 0 stem 0; end");
        x.make(mix, 2, 2);
        due("by a SHEET of an EDITION without FRAMES", x.length(mix), 0);
        due("its lay", x.fate(2, 0, 2), 2);

        about("a MIX in the EDITION that is the SHEET's sounds in its BLANK FRAMES too");
        x = steps(1, 8);
        x.edition();
        x.blank(2);
        int own = mix(x, "sheet lay 0 at 0 stem 0; end");
        heard(x, own, 0, 1, 2, 3, 4, 5, 6, 7, 8, 0);
    }

    private static void makings() {
        about("with all SOUNDS as they are now");
        MixStage x = steps(1, 4);
        int inner = mix(x, "sheet lay 0 at 0 stem 0; end");
        int outer = mix(x, "sheet lay " + inner + " at 0 gain 200 stem 0; end");
        x.wave(0, 0, 4, 7, 0);
        x.make(outer, 1, 0);
        heard(x, outer, 0, 2, 4, 6, 8);
        x.make(inner, 0, 0);
        x.make(outer, 1, 0);
        heard(x, outer, 0, 14, 14, 14, 14);

        about("its GENERATION: one more than the greatest of SOUNDS laid (1 without)");
        x = steps(1, 4);
        int none = mix(x, "sheet end");
        due("without", x.about(none, 1), 1);
        int clip = mix(x, "sheet clip 1; end");
        due("without lays", x.about(clip, 1), 1);
        int one = mix(x, "sheet lay 0 at 0 stem 0; end");
        due("of a PLAIN one", x.about(one, 1), 1);
        int two = mix(x, "sheet lay 0 at 0 stem 0; lay " + one + " at 60 for 0 stem 0; lay 0 at 0 stem 0; end");
        due("of a MIXED one, though not HEARD", x.about(two, 1), 2);
        int three = mix(x, "sheet lay " + two + " at 0 stem 0; lay " + one + " at 0 stem 0; end");
        due("of the greatest", x.about(three, 1), 3);
        int trimmed = x.trim(three, 0, 1);
        int four = mix(x, "sheet lay " + trimmed + " at 0 stem 0; end");
        due("of a TRIMMED one", x.about(four, 1), 1);
        int unmade = x.mixed();
        int five = mix(x, "sheet lay " + unmade + " at 0 stem 0; end");
        due("of one not made", x.about(five, 1), 1);
        x.make(unmade, 2, 0);
        due("as it was made", x.about(five, 1), 1);
        x.again();
        due("made again", x.about(five, 1), 2);
        x.make(three, 0, 0);
        due("made by another SHEET", x.about(three, 1), 1);
    }

    private static void hisses() {
        about("HISS of a SOUND: of its GENERATION in a row of eight (HISSES, 0 .. 999; 0 at first; from 7 on the last)");
        MixStage x = reel(1);
        tone(x, 4, 1, 0);
        int[] mixes = new int[9];
        for (int g = 1; g < 9; g++) {
            mixes[g] = mix(x, "sheet lay " + (g - 1) + " at 0 stem 0; end");
            due("GENERATION", x.about(mixes[g], 1), g);
        }
        for (int g = 0; g < 9; g++) {
            due("at first", x.about(mixes[g], 2), 0);
        }
        for (int g = 0; g < 8; g++) {
            due("hisses", x.hisses(g, 999), true);
            for (int i = 0; i < 9; i++) {
                int from7 = i >= 7 && g == 7 ? i - 6 : 0;
                int want = g == 7 ? from7 * 999 : i >= g ? 999 : 0;
                due("HISS of GENERATION " + i + " with " + g, x.about(mixes[i], 2), want);
            }
            due("hisses", x.hisses(g, 1000), false);
            due("hisses", x.hisses(g, -1), false);
            due("hisses", x.hisses(8, 500), false);
            due("hisses", x.hisses(-1, 500), false);
            due("nothing happened", x.about(mixes[g], 2), 999);
            due("nothing happened", x.about(mixes[8], 2), g == 7 ? 1998 : 999);
            due("hisses", x.hisses(g, 0), true);
        }

        about("and of a MIXED one the greatest HISS of its SOUNDS laid more");
        x = reel(1);
        tone(x, 4, 1, 0);
        x.hisses(0, 3);
        x.hisses(1, 10);
        x.hisses(2, 100);
        due("PLAIN", x.about(0, 2), 3);
        int unmade = x.mixed();
        due("not made", x.about(unmade, 2), 3);
        int none = mix(x, "sheet end");
        due("without lays", x.about(none, 2), 10);
        int one = mix(x, "sheet lay 0 at 0 stem 0; lay 0 at 0 stem 0; end");
        due("of one laid twice", x.about(one, 2), 13);
        int two = mix(x, "sheet lay 0 at 0 stem 0; lay " + one + " at 0 stem 0; lay " + none + " at 0 stem 0; end");
        due("of the greatest", x.about(two, 2), 113);
        int three = mix(x, "sheet lay " + x.trim(two, 0, 4) + " at 0 stem 0; end");
        due("of a TRIMMED one", x.about(three, 2), 13);
        x = reel(1);
        for (int i = 0; i < 4; i++) {
            x.hisses(i, 1 << i);
            x.mixed();
        }
        for (int i = 3; i >= 0; i--) {
            tell(x, i == 3 ? "sheet end" : "sheet lay " + (i + 1) + " at 0 stem 0; end");
            x.make(i, 3 - i, 0);
        }
        due("GENERATION", x.about(0, 1), 4);
        due("of those told later", x.about(0, 2), 2 + 4 + 8);
    }

    private static void leanings() {
        about("It LEANS ON all SOUNDS that its SHEET lays, those on which these lean (TRIMMED, MUTED ones on theirs), and so on");
        MixStage x = reel(1);
        x.sound(2, 4, 0, 0);
        x.mute(0);
        x.trim(1, 0, 1);
        x.trim(2, 0, 1);
        due("LINE", x.leans(0), 0);
        due("MUTED", x.leans(1), 1);
        due("TRIMMED", x.leans(2), 3);
        due("TRIMMED of it", x.leans(3), 7);
        x.sound(0, 4, 0, 0);
        int unmade = x.mixed();
        due("not made", x.leans(unmade), 0);
        int one = mix(x, "block a lay 4 at 0 stem 0; end sheet use a at 0; lay 3 at 0 for 0 stem 0; end");
        due("MIXED", x.leans(one), 31);
        int two = mix(x, "sheet lay " + one + " at 0 stem 0; lay " + unmade + " at 0 stem 0; end");
        due("MIXED of it", x.leans(two), 127);
        tell(x, "block a lay 4 at 0 stem 0; end sheet end");
        x.make(one, 2, 0);
        due("a block that is not used", x.leans(one), 0);
        due("by it", x.leans(two), 32 + 64);
        x = reel(1);
        x.mixed();
        x.mixed();
        tone(x, 4, 1, 0);
        tell(x, "sheet lay 2 at 0 stem 0; end");
        tell(x, "sheet lay 0 at 0 stem 0; end");
        tell(x, "sheet lay 1 at 0 stem 0; end");
        x.make(0, 0, 0);
        x.make(1, 1, 0);
        due("by way of SOUND 0", x.leans(1), 1 + 4);
        x.make(1, 0, 0);
        x.make(0, 2, 0);
        due("by way of a later one", x.leans(0), 2 + 4);
        due("no longer", x.leans(1), 4);
        x = reel(1);
        for (int i = 0; i < 20; i++) {
            x.sound(2, 1, 0, 0);
        }
        due("the last SOUND", x.leans(19), 0);
        due("no such SOUND", x.leans(20), -1);
        x = reel(1);
        x.sound(2, 4, 0, 0);
        for (int i = 1; i < 20; i++) {
            x.trim(i - 1, 0, 1);
        }
        due("all of them", x.leans(19), (1 << 19) - 1);
    }

    private static void staleOnes() {
        about("It is STALE if one that it leans on has a later STAMP than its making");
        MixStage x = reel(1);
        x.sound(2, 4, 0, 0);
        tone(x, 4, 1, 0);
        x.trim(1, 0, 2);
        x.mute(0);
        int mix = mix(x, "sheet lay 2 at 0 stem 0; lay 3 at 0 stem 0; end");
        due("made", x.about(mix, 4), 0);
        x.mouth(0, 1);
        x.hisses(1, 1);
        x.edition();
        x.keep(0, 1);
        tone(x, 4, 1, 0);
        x.trim(1, 0, 1);
        tell(x, "rules end");
        due("nothing that it leans on", x.about(mix, 4), 0);
        x.sample(1, 3, 1);
        due("what a TRIMMED one leans on, behind its end", x.about(mix, 4), 1);
        due("again()", x.again(), 1);
        due("made again", x.about(mix, 4), 0);
        x.wave(0, 0, 1, 0, 0);
        due("what a MUTED one leans on, told alike", x.about(mix, 4), 1);
        x.make(mix, 0, 1);
        due("made anew", x.about(mix, 4), 0);
        x.wave(0, 0, 5, 0, 0);
        x.sample(1, 4, 0);
        due("refused tellings", x.about(mix, 4), 0);
        due("none", x.again(), 0);

        about("or a MIXED one on which it leans is STALE");
        x = reel(1);
        tone(x, 4, 1, 0);
        int one = mix(x, "sheet lay 0 at mark 1 stem 0; end");
        int cut = x.trim(one, 0, 1);
        int two = mix(x, "sheet lay " + cut + " at 0 stem 0; end");
        int three = mix(x, "sheet lay " + two + " at 0 stem 0; end");
        int other = mix(x, "sheet lay 0 at 0 stem 0; end");
        x.mark(1, 0);
        due("by a MARK", x.about(one, 4), 1);
        due("through a TRIMMED one", x.about(two, 4), 1);
        due("through that", x.about(three, 4), 1);
        due("another", x.about(other, 4), 0);
        due("no MIXED one", x.about(cut, 4), 0);
        due("again()", x.again(), 3);
        x.make(one, 0, 0);
        due("the one made", x.about(one, 4), 0);
        due("one that leans on a making", x.about(two, 4), 1);
        due("one that leans on that", x.about(three, 4), 1);
        int late = x.mixed();
        due("one not made", x.about(late, 4), 0);
        due("again()", x.again(), 2);
    }

    private static void staleMarks() {
        about("or a MARK on which a FRAME of one of its SHEET's CUES hangs (all blocks put in; a use alone is none)");
        String[] sheets = {
            "sheet lay 0 at mark 3 stem 0; end",
            "sheet lay 0 at mark 3 + 1 stem 0; end",
            "sheet lay 0 at mark 3 - 1 stem 0; end",
            "sheet fade 0 from 0 to mark 3 - 1 gain 1, 1; end",
            "sheet lay 0 at mark 3 - 60 for 0 stem 0; end",
            "sheet fade 0 from mark 3 to 0 gain 1, 1; end",
            "sheet fade 0 from 0 to mark 3 gain 1, 1; end",
            "block a lay 0 at mark 3 stem 0; end sheet use a at 0; end",
            "block a lay 0 at mark 3 stem 0; end sheet use a at mark 4; end",
            "block a lay 0 at 5 stem 0; end sheet use a at mark 3; end",
            "block a fade 0 from 0 to mark 4 gain 1, 1; end sheet use a at mark 3; end",
            "block a fade 0 from mark 4 to 0 gain 1, 1; end sheet use a at mark 3; end",
            "block a lay 0 at 5 stem 0; end block b use a at 0; end sheet use b at mark 3; end",
            "block a lay 0 at 5 stem 0; end block b use a at mark 3; end sheet use b at mark 4; end",
            "block a clip 1; end sheet use a at mark 3; end",
            "block a end sheet use a at mark 3; end",
            "block a clip 1; taps 0 of 1; dip 0 under 0 by 1 hold 1; lay 0 at mark 4 stem 0; end sheet use a at mark 3; end",
            "block a fade 0 from mark 4 to mark 5 gain 1, 1; end sheet use a at mark 3; end",
            "block a lay 0 at 5 stem 0; end block b use a at mark 4; end sheet use b at mark 3; end",
            "block a lay 0 at mark 3 stem 0; end sheet lay 0 at 0 stem 0; end",
            "sheet lay 0 at 3 stem 0; fade 0 from 3 to 3 gain 1, 1; end",
        };
        for (int i = 0; i < sheets.length; i++) {
            MixStage x = steps(1, 4);
            int mix = mix(x, sheets[i]);
            x.mark(2, 1);
            x.mark(7, 1);
            x.mark(0, 1);
            x.mark(3, 61);
            x.mark(8, 0);
            due("other MARKS, and refused ones: " + sheets[i], x.about(mix, 4), 0);
            x.mark(3, 0);
            due("the MARK, told alike: " + sheets[i], x.about(mix, 4), i < 14 ? 1 : 0);
            x.again();
            due("made again: " + sheets[i], x.about(mix, 4), 0);
        }
        for (int m = 0; m < 8; m++) {
            MixStage x = steps(1, 4);
            int mix = mix(x, "sheet lay 0 at mark " + m + " stem 0; end");
            x.mark(m, 0);
            due("MARK " + m, x.about(mix, 4), 1);
        }
    }

    private static void refusedSheets() {
        about("No SHEET may lay a SOUND that leans on the one to be made, or that itself");
        MixStage x = reel(1);
        tone(x, 4, 1, 0);
        int one = x.mixed();
        int two = x.mixed();
        int cut = x.trim(one, 0, 1);
        tell(x, "sheet lay " + one + " at 0 for 0 stem 0; end");
        tell(x, "sheet lay " + cut + " at 0 stem 0; end");
        tell(x, "sheet lay " + two + " at 0 stem 0; end");
        tell(x, "block a lay " + one + " at 0 stem 0; end sheet end");
        due("itself", x.make(one, 0, 0), -2);
        due("a TRIMMED one of it", x.make(one, 1, 0), -2);
        due("one that does not lean on it yet", x.make(one, 2, 0), 6);
        due("one that lays it", x.make(two, 0, 0), -2);
        due("one that lays what leans on it", x.make(two, 1, 0), -2);
        due("a block that is not used", x.make(one, 3, 0), 7);
        due("now", x.make(two, 1, 0), 8);
        due("now not", x.make(one, 2, 0), -2);
        due("nothing happened", x.about(one, 5), 3);
        due("nothing happened", x.count(3), 8);
    }
}
