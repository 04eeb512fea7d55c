/** Promises 1 to 38 one by one: ordinary inputs, the edges that the document names, wrong inputs. */
public final class PromiseTest extends Kit {
    public static void main(String[] args) {
        Runnable[] all = {PromiseTest::newObject, PromiseTest::feeds, PromiseTest::backs, PromiseTest::reads, PromiseTest::places,
            PromiseTest::reels, PromiseTest::editions, PromiseTest::keeps, PromiseTest::blanks, PromiseTest::framesOf,
            PromiseTest::olds, PromiseTest::sounds, PromiseTest::trims, PromiseTest::mutes, PromiseTest::mixeds,
            PromiseTest::waves, PromiseTest::samples, PromiseTest::mouths, PromiseTest::marks, PromiseTest::hissRows,
            PromiseTest::makes, PromiseTest::agains, PromiseTest::lengths, PromiseTest::heards, PromiseTest::abouts,
            PromiseTest::leanings, PromiseTest::cueCounts, PromiseTest::cueParts, PromiseTest::fates, PromiseTest::goings,
            PromiseTest::quarrels, PromiseTest::louds, PromiseTest::tames, PromiseTest::seams, PromiseTest::fits,
            PromiseTest::soundings, PromiseTest::oweds, PromiseTest::counts};
        for (int i = 0; i < all.length; i++) {
            about("promise " + (i + 1));
            all[i].run();
        }
        finish("promises");
    }

    private static void newObject() {
        MixStage x = new MixStage();
        int[] want = {1, 0, 0, 0, 0, 0};
        for (int what = 0; what < 6; what++) {
            due("count(" + what + ")", x.count(what), want[what]);
        }
        due("frames(0)", x.frames(0), 24);
        due("place()", x.place(), -1);
        due("again()", x.again(), 0);
        due("heard(0, 0)", x.heard(0, 0), 0);
        due("NONE", MixStage.NONE, -1);
    }

    private static void feeds() {
        MixStage x = new MixStage();
        due("feed", x.feed(-1, 0, 0, 0, 0), 20);
        due("read", x.read(), 1);
        due("place", x.place(), 0);
        // "sheet end" with the highest byte of each first
        due("feed", x.feed(0x73686565, 0x7420656e, 0x64202020, 0x20202020, 0x20202020), 20);
        due("read", x.read(), 0);
        for (int i = 1; i <= 100; i++) {
            due("feed " + i, x.feed(0, 0, 0, 0, 0), 20 * i);
        }
        due("feed 101", x.feed(0, 0, 0, 0, 0), -1);
        due("count(5)", x.count(5), 2000);
        x.back(19);
        due("feed at 1981", x.feed(0, 0, 0, 0, 0), -1);
        x.back(1);
        due("feed at 1980", x.feed(0, 0, 0, 0, 0), 2000);
    }

    private static void backs() {
        MixStage x = new MixStage();
        due("back(0)", x.back(0), 0);
        due("back(1)", x.back(1), -1);
        x.feed(1, 2, 3, 4, 5);
        due("back(-1)", x.back(-1), -1);
        due("back(21)", x.back(21), -1);
        due("back(max)", x.back(Integer.MAX_VALUE), -1);
        due("back(min)", x.back(Integer.MIN_VALUE), -1);
        due("back(7)", x.back(7), 13);
        due("back(13)", x.back(13), 0);
        feed(x, "sheet end");
        due("count(5)", x.count(5), 9);
        due("read", x.read(), 0);
    }

    private static void reads() {
        readsSyntax();
        readsRoom();
        readsLater();
        readsSheets();
    }

    private static void readsSyntax() {
        fault("", 1, 0);
        fault("   ", 1, 3);
        fault("sheet", 1, 5);
        fault("sheet  ", 1, 7);
        fault("sheet end ", 0, -1);
        fault("rules end", 0, -1);
        fault("\t\nsheet\r end", 0, -1);
        fault("sheet end x", 1, 10);
        fault("sheet end sheet end", 1, 10);
        fault("block a end", 1, 11);
        fault("block a end rules end", 1, 12);
        fault("block lay end sheet end", 1, 6);
        fault("block 1 end sheet end", 1, 6);
        fault("Sheet end", 1, 0);
        fault("sheet layx 0", 1, 6);
        fault("sheet lay0at1stem2;end", 0, -1);
        fault("sheet lay 00000 at", 1, 10);
        fault("sheet lay 0000 at 0001 stem 0; end", 0, -1);
        fault("sheet lay 0 at 1 stem 0 end", 1, 24);
        fault("sheet lay 0 at 1 for 1 from 1 stem 0; end", 1, 23);
        fault("sheet lay 0 at mark 1 + mark 2 stem 0; end", 1, 24);
        fault("sheet lay 0 at 1 + 1 stem 0; end", 1, 17);
        fault("sheet lay 0 at 1 speed 1 stem 0; end", 1, 25);
        fault("sheet fade 0 from 1 to 2 gain 100; end", 1, 33);
        fault("sheet dip 0 under 1 by 2; end", 1, 24);
        fault("sheet taps 0 of; end", 1, 15);
        fault("sheet taps 0 of 1,; end", 1, 18);
        fault("sheet clip x; end", 1, 11);
        fault("sheet use 1 at 0; end", 1, 10);
        fault("block abcdefgh end sheet end", 0, -1);
        fault("block abcdefghi end sheet end", 1, 6);
        fault("rules right 1 if 1; end", 1, 18);
        fault("rules right 1 if (1 < 2); end", 1, 20);
        fault("rules right (1 + 2; end", 1, 18);
        fault("rules right 1); end", 1, 13);
        fault("rules right -1; end", 1, 12);
        fault("rules right 1 = 1; end", 1, 14);
        fault("rules right 1 if 1 = 1; end", 1, 19);
        fault("rules right 1 if 1 ! 1; end", 1, 19);
        fault("rules right 1 if not not 1<=1 and not 2<1 or 1!=1; end", 0, -1);
        fault("rules right 1 if 1 < = 1; end", 1, 21);
        fault("rules loud 1; end", 1, 12);
        fault("rules right x; end", 1, 12);
        fault("rules right 1 if 1 < 2 < 3; end", 1, 23);
        fault("sheet end" + (char) 200, 1, 9);
    }

    private static void readsRoom() {
        String six = "block a end block b end block c end block d end block e end block f end ";
        fault(six + "sheet end", 0, -1);
        fault(six + "block g end sheet end", 2, six.length());
        String cues = times(16, "clip 1;");
        fault("sheet " + cues + "end", 0, -1);
        fault("sheet " + cues + "clip 1; end", 2, 6 + cues.length());
        fault("sheet " + cues + "x", 1, 6 + cues.length());
        fault("block a " + cues + "use a at 0; end sheet end", 2, 8 + cues.length());
        String rules = times(12, "loud 1 in 1;");
        fault("rules " + rules + "end", 0, -1);
        fault("rules " + rules + "right 1; end", 2, 6 + rules.length());
        fault("rules right ((((((1)))))) + ((1)); end", 0, -1);
        fault("rules right (((((((1))))))); end", 2, 18);
        fault("rules right ((((((1)+((((((", 2, 22);
        fault("sheet taps 0 of 1, 2, 3, 4; end", 0, -1);
        fault("sheet taps 0 of 1, 2, 3, 4, 5; end", 2, 28);
        fault("sheet taps 0 of 1, 2, 3, 4,; end", 1, 27);
        // rules right 1 if, so many not, 1 < 1 ; end
        String one = "rules right 1 if " + times(491, "not ") + "1<1;";
        fault(one + "end", 0, -1);
        fault(one + "end x", 1, one.length() + 4);
        String more = "rules right 1 if " + times(492, "not ") + "1<1;";
        fault(more + "end", 2, more.length());
        fault(more + "x", 1, more.length());
        fault(more, 1, more.length());
    }

    private static void readsLater() {
        fault("block a end block a end sheet end", 3, 18);
        fault("block a end block a end sheet lay 20 at 0 stem 0; end", 3, 18);
        fault("sheet lay 20 at 0 stem 0; end x", 1, 30);
        fault("sheet use a at 0; end", 4, 10);
        fault("block a use a at 0; end sheet end", 4, 12);
        fault("block a use b at 0; end block b end sheet end", 4, 12);
        fault("block a end block b use a at 0; end sheet use b at 1; end", 0, -1);
        fault("sheet lay 20 at 0 stem 0; end", 5, 10);
        fault("sheet lay 19 at 60 from 60 for 60 gain 400 speed 9/9 stem 2; end", 0, -1);
        fault("sheet lay 0 at 61 stem 0; end", 5, 15);
        fault("sheet lay 0 at mark 8 stem 0; end", 5, 20);
        fault("sheet lay 0 at mark 7 - 60 stem 0; end", 0, -1);
        fault("sheet lay 0 at mark 7 + 61 stem 0; end", 5, 24);
        fault("sheet lay 0 at 0 from 61 stem 0; end", 5, 22);
        fault("sheet lay 0 at 0 for 61 stem 0; end", 5, 21);
        fault("sheet lay 0 at 0 gain 401 stem 0; end", 5, 22);
        fault("sheet lay 0 at 0 speed 0/1 stem 0; end", 5, 23);
        fault("sheet lay 0 at 0 speed 1/10 stem 0; end", 5, 25);
        fault("sheet lay 0 at 0 stem 3; end", 5, 22);
        fault("sheet fade 3 from 0 to 0 gain 0, 0; end", 5, 11);
        fault("sheet fade 0 from 61 to 0 gain 0, 0; end", 5, 18);
        fault("sheet fade 0 from 0 to mark 9 gain 0, 0; end", 5, 28);
        fault("sheet fade 0 from 0 to 0 gain 401, 0; end", 5, 30);
        fault("sheet fade 0 from 0 to 0 gain 0, 401; end", 5, 33);
        fault("sheet dip 3 under 0 by 0 hold 0; end", 5, 10);
        fault("sheet dip 0 under 3 by 0 hold 0; end", 5, 18);
        fault("sheet dip 0 under 0 by 401 hold 0; end", 5, 23);
        fault("sheet dip 0 under 0 by 0 hold 61; end", 5, 30);
        fault("sheet taps 3 of 0; end", 5, 11);
        fault("sheet taps 0 of 0, 401; end", 5, 19);
        fault("sheet clip 9999; end", 0, -1);
        fault("block a end sheet use a at 61; end", 5, 27);
        fault("block a end sheet use b at 61; end", 4, 22);
        fault("rules loud 9999 in 60; end", 0, -1);
        fault("rules loud 1 in 0; end", 5, 16);
        fault("rules loud 1 in 61; end", 5, 16);
        fault("rules right 9999 * 9999; end", 0, -1);
        String ten = times(10, "clip 1;");
        String four = "block a " + ten + "end sheet " + times(4, "use a at 0;");
        fault(four + "end", 0, -1);
        fault(four + "clip 1; end", 6, 8 + ten.length() + 4);
        fault(four + "clip 1; use a at 61; end", 5, four.length() + 17);
        // blocks that are not used count nothing
        fault("block b " + times(16, "clip 1;") + "end block a " + times(16, "use b at 0;") + "end sheet end", 0, -1);
        fault("block b end block a " + times(16, "use b at 0;") + "end block c " + times(16, "use a at 0;") + "end sheet "
                + times(16, "use c at 0;") + "end", 0, -1);
    }

    private static void readsSheets() {
        MixStage x = new MixStage();
        for (int i = 0; i < 8; i++) {
            due("read", tell(x, "sheet end"), 0);
            due("count(2)", x.count(2), i + 1);
        }
        feed(x, "rules x");
        due("read with 8 SHEETS", x.read(), -2);
        due("the tape stays", x.count(5), 7);
        MixStage y = new MixStage();
        due("rules", tell(y, "rules loud 1 in 1; right 2; end"), 0);
        due("a faulty text changes nothing", tell(y, "rules loud 1 in 1; x"), 1);
        due("count(4)", y.count(4), 2);
        due("the tape is empty", y.count(5), 0);
        due("a SHEET lets the rules be", tell(y, "sheet end"), 0);
        due("count(4)", y.count(4), 2);
        due("rules anew", tell(y, "rules end"), 0);
        due("count(4)", y.count(4), 0);
        due("count(2)", y.count(2), 1);
    }

    private static void places() {
        MixStage x = new MixStage();
        tell(x, "sheet  x");
        due("place", x.place(), 7);
        feed(x, "sheet");
        due("place stays until read", x.place(), 7);
        x.read();
        due("place at the end", x.place(), 5);
        tell(x, "sheet end");
        due("place without", x.place(), -1);
        for (int i = 1; i < 7; i++) {
            tell(x, "sheet end");
        }
        tell(x, "nothing");
        due("place", x.place(), 0);
        tell(x, "sheet end");
        due("place", x.place(), -1);
        due("read", tell(x, "rules   x"), -2);
        due("place after -2", x.place(), -1);
    }

    private static void reels() {
        MixStage x = new MixStage();
        due("reel(1)", x.reel(1), true);
        due("frames(0)", x.frames(0), 1);
        due("reel(60)", x.reel(60), true);
        due("frames(0)", x.frames(0), 60);
        due("reel(0)", x.reel(0), false);
        due("reel(61)", x.reel(61), false);
        due("reel(-1)", x.reel(-1), false);
        due("frames(0)", x.frames(0), 60);
        x.edition();
        due("reel with another EDITION", x.reel(10), false);
        MixStage y = new MixStage();
        tell(y, "rules end");
        due("reel with RULES", y.reel(10), true);
        tell(y, "sheet end");
        due("reel with a SHEET", y.reel(11), false);
        due("frames(0)", y.frames(0), 10);
    }

    private static void editions() {
        MixStage x = reel(3);
        due("edition", x.edition(), 1);
        due("frames(1)", x.frames(1), 0);
        due("edition behind an empty one", x.edition(), -1);
        due("count(0)", x.count(0), 2);
        for (int e = 2; e < 6; e++) {
            x.keep(0, 1);
            due("edition", x.edition(), e);
        }
        x.blank(2);
        due("a seventh", x.edition(), -1);
        due("count(0)", x.count(0), 6);
        due("frames(5)", x.frames(5), 2);
    }

    private static void keeps() {
        MixStage x = reel(40);
        due("keep in EDITION 0", x.keep(0, 1), -1);
        x.edition();
        due("keep(0, 0)", x.keep(0, 0), -1);
        due("keep(2, 1)", x.keep(2, 1), -1);
        due("keep(-1, 1)", x.keep(-1, 1), -1);
        due("keep(0, 41)", x.keep(0, 41), -1);
        due("keep(min, max)", x.keep(Integer.MIN_VALUE, Integer.MAX_VALUE), -1);
        due("keep(0, 40)", x.keep(0, 40), 40);
        due("keep(0, 21)", x.keep(0, 21), -1);
        due("keep(39, 40)", x.keep(39, 40), 41);
        due("old(1, 40, 0)", x.old(1, 40, 0), 39);
        for (int i = 0; i < 8; i++) {
            due("keep(5, 6)", x.keep(5, 6), 42 + i);
        }
        due("an eleventh PART", x.keep(5, 6), -1);
        due("an eleventh PART", x.blank(1), -1);
        due("frames(1)", x.frames(1), 49);
        MixStage y = reel(4);
        y.edition();
        due("keep(0, 4)", y.keep(0, 4), 4);
        tell(y, "rules end");
        due("keep after RULES", y.keep(0, 1), 5);
        tell(y, "sheet end");
        due("keep after a SHEET", y.keep(0, 1), -1);
        due("frames(1)", y.frames(1), 5);
        y.edition();
        due("keep of the EDITION ahead", y.keep(4, 5), 1);
        due("old(2, 0, 0)", y.old(2, 0, 0), 0);
    }

    private static void blanks() {
        MixStage x = reel(4);
        due("blank in EDITION 0", x.blank(1), -1);
        x.edition();
        due("blank(0)", x.blank(0), -1);
        due("blank(-1)", x.blank(-1), -1);
        due("blank(61)", x.blank(61), -1);
        due("blank(max)", x.blank(Integer.MAX_VALUE), -1);
        due("blank(59)", x.blank(59), 59);
        due("blank(2)", x.blank(2), -1);
        due("keep(0, 2)", x.keep(0, 2), -1);
        due("blank(1)", x.blank(1), 60);
        due("old(1, 59, 0)", x.old(1, 59, 0), -1);
        tell(x, "sheet end");
        x.edition();
        due("blank(3)", x.blank(3), 3);
        tell(x, "sheet end");
        due("blank after a SHEET", x.blank(3), -1);
    }

    private static void framesOf() {
        MixStage x = new MixStage();
        due("frames(-1)", x.frames(-1), -1);
        due("frames(1)", x.frames(1), -1);
        due("frames(6)", x.frames(6), -1);
        due("frames(max)", x.frames(Integer.MAX_VALUE), -1);
        x.edition();
        due("frames(1)", x.frames(1), 0);
        x.keep(0, 5);
        x.blank(2);
        due("frames(1)", x.frames(1), 7);
        due("frames(0)", x.frames(0), 24);
    }

    private static void olds() {
        MixStage x = reel(5);
        x.edition();
        x.keep(3, 5);
        x.blank(1);
        x.keep(0, 2);
        x.edition();
        x.keep(1, 4);
        int[] one = {3, 4, -1, 0, 1};
        for (int f = 0; f < 5; f++) {
            due("old(1, " + f + ", 0)", x.old(1, f, 0), one[f]);
            due("old(1, " + f + ", 1)", x.old(1, f, 1), f);
        }
        int[] two = {4, -1, 0};
        for (int f = 0; f < 3; f++) {
            due("old(2, " + f + ", 0)", x.old(2, f, 0), two[f]);
            due("old(2, " + f + ", 1)", x.old(2, f, 1), f + 1);
        }
        due("old(2, 3, 0)", x.old(2, 3, 0), -2);
        due("old(2, -1, 0)", x.old(2, -1, 0), -2);
        due("old(1, 0, 2)", x.old(1, 0, 2), -2);
        due("old(3, 0, 0)", x.old(3, 0, 0), -2);
        due("old(1, 0, -1)", x.old(1, 0, -1), -2);
        due("old(-1, 0, -1)", x.old(-1, 0, -1), -2);
    }

    private static void sounds() {
        MixStage x = new MixStage();
        due("sound(0, 240, ..)", x.sound(0, 240, -5, 77), 0);
        due("sound(0, 241, ..)", x.sound(0, 241, 0, 0), -1);
        due("sound(0, 0, ..)", x.sound(0, 0, 0, 0), -1);
        due("sound(0, -2, ..)", x.sound(0, -2, 0, 0), -1);
        due("MISSING", x.sound(0, -1, 0, 0), 1);
        due("length of a MISSING one", x.length(1), 0);
        due("sound(1, 4, 0, 4)", x.sound(1, 4, 0, 4), 2);
        due("sound(1, 4, 3, 4)", x.sound(1, 4, 3, 4), 3);
        due("sound(1, 4, 4, 4)", x.sound(1, 4, 4, 4), -1);
        due("sound(1, 4, -1, 4)", x.sound(1, 4, -1, 4), -1);
        due("sound(1, 4, 0, 5)", x.sound(1, 4, 0, 5), -1);
        due("MISSING LOOP", x.sound(1, -1, 239, 240), 4);
        due("MISSING LOOP", x.sound(1, -1, 0, 241), -1);
        due("MUSIC", x.sound(3, 4, 7, 0), 5);
        due("MUSIC without such an OWNER", x.sound(3, 4, 8, 0), -1);
        due("MUSIC without such an OWNER", x.sound(3, 4, -1, 0), -1);
        due("LINE", x.sound(2, 1, 9, 9), 6);
        due("no such kind", x.sound(4, 1, 0, 0), -1);
        due("no such kind", x.sound(-1, 1, 0, 0), -1);
        due("count(3)", x.count(3), 7);
        for (int i = 7; i < 20; i++) {
            due("sound", x.sound(0, 1, 0, 0), i);
        }
        due("a 21st", x.sound(0, 1, 0, 0), -1);
        due("count(1)", x.count(1), 20);
        due("count(3)", x.count(3), 20);
    }

    private static void trims() {
        MixStage x = new MixStage();
        due("trim without SOUNDS", x.trim(0, 0, 1), -1);
        tone(x, 10, 1, 1);
        due("trim(0, 2, 6)", x.trim(0, 2, 6), 1);
        heard(x, 1, 0, 3, 4, 5, 6, 0);
        due("trim of a TRIMMED one", x.trim(1, 1, 240), 2);
        due("length", x.length(2), 3);
        heard(x, 2, -1, 0, 4, 5, 6, 0);
        due("behind the end", x.trim(0, 8, 20), 3);
        due("length", x.length(3), 2);
        due("wholly behind", x.trim(0, 10, 20), 4);
        due("length", x.length(4), 0);
        x.sample(0, 3, -7);
        due("as it is now", x.heard(2, 0), -7);
        due("trim(0, 3, 3)", x.trim(0, 3, 3), -1);
        due("trim(0, -1, 3)", x.trim(0, -1, 3), -1);
        due("trim(0, 0, 241)", x.trim(0, 0, 241), -1);
        due("trim(5, 0, 1)", x.trim(5, 0, 1), -1);
        due("trim(-1, 0, 1)", x.trim(-1, 0, 1), -1);
        for (int i = 5; i < 20; i++) {
            due("trim", x.trim(i - 1, 0, 240), i);
        }
        due("a 21st", x.trim(0, 0, 1), -1);
        due("a long chain", x.length(19), 0);
    }

    private static void mutes() {
        MixStage x = new MixStage();
        due("mute without SOUNDS", x.mute(0), -1);
        x.sound(2, 5, 0, 0);
        x.wave(0, 0, 5, 9, 0);
        due("mute(0)", x.mute(0), 1);
        due("length", x.length(1), 5);
        heard(x, 1, 0, 0, 0, 0, 0, 0, 0);
        due("kind", x.about(1, 0), 5);
        due("mute of a MUTED one", x.mute(1), -1);
        x.trim(0, 0, 5);
        due("mute of a TRIMMED one", x.mute(2), -1);
        x.sound(0, 5, 0, 0);
        due("mute of a PLAIN one", x.mute(3), -1);
        due("mute(-1)", x.mute(-1), -1);
        x.sound(2, -1, 0, 0);
        due("mute of a MISSING one", x.mute(4), 5);
        due("length", x.length(5), 0);
        for (int i = 6; i < 20; i++) {
            due("mute", x.mute(0), i);
        }
        due("a 21st", x.mute(0), -1);
    }

    private static void mixeds() {
        MixStage x = new MixStage();
        for (int i = 0; i < 20; i++) {
            due("mixed", x.mixed(), i);
        }
        due("a 21st", x.mixed(), -1);
        due("count(3)", x.count(3), 20);
        due("length", x.length(3), 0);
        due("kind", x.about(3, 0), 6);
        due("GENERATION", x.about(3, 1), 0);
        due("SHEET", x.about(3, 5), -1);
        due("EDITION", x.about(3, 6), -1);
    }

    private static void waves() {
        MixStage x = new MixStage();
        x.sound(0, 10, 0, 0);
        due("wave", x.wave(0, 2, 5, -3, 4), true);
        heard(x, 0, 0, 0, 0, -3, 1, 5, 0);
        due("STAMP", x.about(0, 3), 2);
        due("up to 9999", x.wave(0, 0, 10, 9990, 1), true);
        due("above 9999", x.wave(0, 0, 10, 9991, 1), false);
        due("below -9999", x.wave(0, 0, 10, -9990, -1), true);
        due("below -9999", x.wave(0, 0, 10, -9991, -1), false);
        due("first too large", x.wave(0, 0, 1, 10000, -1), false);
        due("the first alone too large", x.wave(0, 0, 10, 10000, -1), false);
        due("the first alone too small", x.wave(0, 0, 10, -10000, 1), false);
        due("wrapping", x.wave(0, 0, 3, 0, 1 << 31), false);
        due("wrapping", x.wave(0, 0, 5, 0, 1 << 30), false);
        due("the last of a later row", x.wave(0, 8, 10, 9999, 1), false);
        due("the last of a later row", x.wave(0, 8, 10, 9999, -19998), true);
        x.wave(0, 0, 10, -9990, -1);
        due("nothing happens", x.heard(0, 0), -9990);
        due("nothing happens", x.heard(0, 9), -9999);
        due("not all these", x.wave(0, -1, 3, 0, 0), false);
        due("not all these", x.wave(0, 3, 11, 0, 0), false);
        due("no such SOUND", x.wave(1, 0, 1, 0, 0), false);
        due("no such SOUND", x.wave(-1, 0, 1, 0, 0), false);
        due("count(3)", x.count(3), 6);
        x.sound(0, -1, 0, 0);
        due("MISSING", x.wave(1, 0, 1, 0, 0), false);
        x.trim(0, 0, 5);
        due("TRIMMED", x.wave(2, 0, 1, 0, 0), false);
        x.mixed();
        due("MIXED", x.wave(3, 0, 1, 0, 0), false);
        x.sound(1, 3, 0, 3);
        due("LOOP", x.wave(4, 0, 3, 1, 1), true);
        x.sound(2, 3, 0, 0);
        due("LINE", x.wave(5, 0, 3, 1, 1), true);
        x.mute(5);
        due("MUTED", x.wave(6, 0, 3, 1, 1), false);
        x.sound(3, 3, 0, 0);
        due("MUSIC", x.wave(7, 0, 3, 1, 1), true);
        heard(x, 7, 0, 1, 2, 3);
        // of no SAMPLES all are there
        due("a row of none", x.wave(0, 4, 4, 0, 0), true);
        due("a row of none", x.wave(0, 4, 4, 10000, 0), true);
        due("a row of none", x.wave(0, 5, 4, 0, 0), true);
    }

    private static void samples() {
        MixStage x = new MixStage();
        x.sound(3, 4, 0, 0);
        due("sample", x.sample(0, 3, 9999), true);
        due("heard", x.heard(0, 3), 9999);
        due("sample", x.sample(0, 0, -9999), true);
        due("heard", x.heard(0, 0), -9999);
        due("STAMP", x.about(0, 3), 3);
        due("v", x.sample(0, 0, 10000), false);
        due("v", x.sample(0, 0, -10000), false);
        due("v", x.sample(0, 0, Integer.MIN_VALUE), false);
        due("i", x.sample(0, 4, 0), false);
        due("i", x.sample(0, -1, 0), false);
        due("no such SOUND", x.sample(1, 0, 0), false);
        x.trim(0, 0, 4);
        due("TRIMMED", x.sample(1, 0, 0), false);
        x.sound(0, -1, 0, 0);
        due("MISSING", x.sample(2, 0, 0), false);
        x.mixed();
        due("MIXED", x.sample(3, 0, 0), false);
        due("count(3)", x.count(3), 6);
    }

    private static void mouths() {
        MixStage x = new MixStage();
        due("no such LINE", x.mouth(0, 0), -1);
        x.sound(2, 4, 0, 0);
        x.sound(0, 4, 0, 0);
        due("PLAIN", x.mouth(1, 0), -1);
        due("mouth(0, -1)", x.mouth(0, -1), -1);
        due("mouth(0, 60)", x.mouth(0, 60), -1);
        due("mouth(0, 59)", x.mouth(0, 59), 1);
        for (int i = 2; i <= 8; i++) {
            due("mouth(0, 0)", x.mouth(0, 0), i);
        }
        due("a ninth", x.mouth(0, 0), -1);
        due("no STAMP", x.count(3), 2);
        x.mute(0);
        due("MUTED", x.mouth(2, 0), -1);
    }

    private static void marks() {
        MixStage x = reel(10);
        due("mark(0, 60)", x.mark(0, 60), true);
        due("mark(7, 0)", x.mark(7, 0), true);
        due("mark(8, 0)", x.mark(8, 0), false);
        due("mark(-1, 0)", x.mark(-1, 0), false);
        due("mark(0, 61)", x.mark(0, 61), false);
        due("mark(0, -1)", x.mark(0, -1), false);
        due("count(3)", x.count(3), 2);
        tell(x, "sheet lay 0 at mark 0 stem 0; lay 0 at mark 1 + 3 stem 0; lay 0 at mark 7 - 2 stem 0; end");
        due("FRAME", x.cue(0, 0, 1), 60);
        due("FRAME of a MARK at first", x.cue(0, 1, 1), 3);
        due("FRAME ahead of the picture", x.cue(0, 2, 1), -2);
        x.mark(1, 20);
        due("as it is then", x.cue(0, 1, 1), 23);
        tone(x, 12, 1, 1);
        int mix = x.mixed();
        x.make(mix, 0, 0);
        heard(x, mix, 0, 9, 10, 11, 12, 0);
    }

    private static void hissRows() {
        MixStage x = new MixStage();
        tone(x, 4, 1, 1);
        due("at first", x.about(0, 2), 0);
        due("hisses(0, 999)", x.hisses(0, 999), true);
        due("hisses(7, 0)", x.hisses(7, 0), true);
        due("HISS", x.about(0, 2), 999);
        due("hisses(8, 0)", x.hisses(8, 0), false);
        due("hisses(-1, 0)", x.hisses(-1, 0), false);
        due("hisses(0, 1000)", x.hisses(0, 1000), false);
        due("hisses(0, -1)", x.hisses(0, -1), false);
        due("HISS", x.about(0, 2), 999);
        due("no STAMP", x.count(3), 2);
        // chains of MIXES: GENERATION g has HISS of 1 .. g and of the first SOUND together, from 7 on of the last
        for (int g = 0; g < 8; g++) {
            x.hisses(g, 1 << g);
        }
        int want = 1;
        for (int i = 0; i < 7; i++) {
            tell(x, "sheet lay " + i + " at 0 stem 0; end");
            int mix = x.mixed();
            x.make(mix, i, 0);
            want += 1 << i + 1;
            due("GENERATION", x.about(mix, 1), i + 1);
            due("HISS", x.about(mix, 2), want);
        }
        tell(x, "sheet lay 7 at 0 stem 0; lay 3 at 0 stem 0; end");
        int last = x.mixed();
        x.make(last, 7, 0);
        due("GENERATION 8", x.about(last, 1), 8);
        due("HISS of the last", x.about(last, 2), want + 128);
        int trimmed = x.trim(last, 0, 4);
        due("a TRIMMED one has no GENERATION", x.about(trimmed, 1), 0);
        due("HISS of a TRIMMED one", x.about(trimmed, 2), 1);
        x.hisses(0, 500);
        due("HISS as it is now", x.about(last, 2), want + 128 - 1 + 500);
    }

    private static void makes() {
        makesRefused();
        makesLays();
        makesFades();
        makesDips();
        makesTaps();
        makesEditions();
    }

    private static void makesRefused() {
        MixStage x = reel(2);
        tone(x, 8, 1, 1);
        int one = x.mixed();
        int two = x.mixed();
        tell(x, "sheet lay 0 at 0 stem 0; end");
        tell(x, "sheet lay 1 at 0 stem 0; end");
        tell(x, "sheet lay 2 at 0 stem 0; end");
        tell(x, "sheet lay 3 at 0 stem 0; end");
        due("no such SOUND", x.make(3, 0, 0), -1);
        due("PLAIN", x.make(0, 0, 0), -1);
        due("no such SHEET", x.make(1, 4, 0), -1);
        due("no such SHEET", x.make(1, -1, 0), -1);
        due("no such EDITION", x.make(1, 0, 1), -1);
        due("no such EDITION", x.make(1, 0, -1), -1);
        due("make", x.make(one, 0, 0), 5);
        due("itself", x.make(one, 1, 0), -2);
        due("make", x.make(two, 1, 0), 6);
        due("one that leans on it", x.make(one, 2, 0), -2);
        due("a SOUND that is not there", x.make(one, 3, 0), -2);
        due("nothing happens", x.about(one, 5), 0);
        x.trim(two, 0, 3);
        due("one that leans on it", x.make(one, 3, 0), -2);
        due("make", x.make(two, 0, 0), 8);
        due("it leans no longer", x.make(one, 3, 0), 9);
        due("now the other", x.make(two, 1, 0), -2);
        x.edition();
        x.keep(0, 1);
        tell(x, "sheet lay 0 at 0 stem 0; end");
        due("ahead of the SHEET's", x.make(two, 4, 0), -1);
        due("make", x.make(two, 4, 1), 10);
        due("GENERATION", x.about(one, 1), 1);
    }

    private static void makesLays() {
        MixStage x = reel(4);
        int up = tone(x, 8, 10, 10);
        int a = mix(x, "sheet lay 0 at 1 from 1 for 2 gain 50 stem 1; end");
        due("length", x.length(a), 16);
        heard(x, a, 0, 0, 0, 0, 0, 25, 30, 35, 40, 0, 0);
        int b = mix(x, "sheet lay 0 at 0 speed 1/2 stem 0; lay 0 at 3 speed 3/2 stem 2; end");
        heard(x, b, 0, 10, 10, 20, 20, 30, 30, 40, 40, 50, 50, 60, 60, 80, 90, 120, 130);
        x.sound(1, 6, 1, 4);
        x.wave(x.count(1) - 1, 0, 6, 1, 1);
        int c = mix(x, "sheet lay 3 at 0 stem 0; end");
        heard(x, c, 0, 1, 2, 3, 4, 2, 3, 4, 2, 3, 4, 2, 3, 4, 2, 3, 4, 0);
        int d = mix(x, "sheet lay 3 at 0 from 1 for 1 stem 0; end");
        heard(x, d, 0, 2, 3, 4, 2, 0);
        x.mark(0, 0);
        int e = mix(x, "sheet lay 0 at mark 0 - 1 stem 0; clip 70; end");
        heard(x, e, 0, 50, 60, 70, 70, 0);
        int f = mix(x, "sheet lay 0 at 0 gain 400 stem 0; lay 0 at 0 gain 15 stem 0; clip 9; clip 300; end");
        heard(x, f, 0, 41, 83, 124, 166, 207, 249, 290, 300, 0);
        x.wave(up, 0, 8, -7, 0);
        due("rounded towards 0, lay by lay", x.again() > 0, true);
        heard(x, f, 0, -29);
        int g = mix(x, "sheet end");
        due("GENERATION without lays", x.about(g, 1), 1);
        due("length", x.length(g), 16);
        heard(x, g, 0, 0, 0);
        MixStage y = reel(4);
        tone(y, 8, 10, 10);
        int h = mix(y, "sheet lay 0 at 0 stem 0; clip 0; end");
        heard(y, h, 0, 0, 0);
        y.sound(1, 6, 1, 4);
        y.wave(y.count(1) - 1, 0, 6, 1, 1);
        int i = mix(y, "sheet lay 2 at 0 from 2 stem 0; lay 0 at mark 0 + 0 gain 0 stem 2; end");
        heard(y, i, 0, 3, 4, 2, 3);
    }

    private static void makesFades() {
        MixStage x = reel(4);
        tone(x, 16, 100, 0);
        int a = mix(x, "sheet lay 0 at 0 stem 1; fade 1 from 1 to 3 gain 0, 80; fade 0 from 0 to 4 gain 9, 9; end");
        heard(x, a, 0, 100, 100, 100, 100, 0, 10, 20, 30, 40, 50, 60, 70, 80, 80, 80, 80);
        int b = mix(x, "sheet fade 1 from 3 to 3 gain 7, 50; lay 0 at 0 stem 1; fade 1 from 2 to 1 gain 1, 60; end");
        heard(x, b, 0, 100, 100, 100, 100, 100, 100, 100, 100, 60, 60, 60, 60, 60, 60, 60, 60);
        int c = mix(x, "sheet fade 1 from 1 to 3 gain 100, 0; fade 1 from 2 to 3 gain 1, 0; lay 0 at 0 stem 1; end");
        heard(x, c, 0, 100, 100, 100, 100, 100, 88, 75, 63, 1, 1, 1, 1, 0, 0, 0, 0);
        int d = mix(x, "sheet fade 1 from mark 0 - 1 to 1 gain 0, 80; lay 0 at 0 stem 1; end");
        heard(x, d, 0, 40, 50, 60, 70, 80, 80);
        int e = mix(x, "sheet lay 0 at 0 gain 3 stem 0; lay 0 at 0 gain 3 stem 0; fade 0 from 0 to 0 gain 0, 30; end");
        heard(x, e, 0, 1);
        int f = mix(x, "sheet lay 0 at 0 stem 2; lay 0 at 0 stem 1; fade 2 from 1 to mark 0 + 2 gain 400, 0; end");
        heard(x, f, 3, 200, 500, 400, 300, 200, 100, 100);
    }

    private static void makesDips() {
        MixStage x = reel(4);
        tone(x, 16, 100, 0);
        tone(x, 2, 1000, 0);
        int a = mix(x, "sheet lay 0 at 0 stem 0; lay 1 at 1 gain 0 stem 1; dip 0 under 1 by 30 hold 1; end");
        heard(x, a, 0, 100, 100, 100, 100, 70, 70, 70, 70, 70, 70, 100, 100, 100, 100, 100, 100);
        int b = mix(x, "sheet lay 0 at 0 stem 0; lay 1 at 1 gain 0 stem 1; dip 0 under 1 by 30 hold 0; dip 0 under 1 by 50 hold 0; end");
        heard(x, b, 0, 100, 100, 100, 100, 35, 35, 100);
        int c = mix(x, "sheet lay 0 at 0 stem 0; dip 0 under 0 by 101 hold 0; dip 1 under 2 by 400 hold 60; end");
        heard(x, c, 0, 0, 0, 0);
        int d = mix(x, "sheet lay 0 at 0 stem 0; dip 0 under 0 by 100 hold 0; end");
        heard(x, d, 0, 0, 0, 0);
        int f = mix(x, "sheet dip 0 under 2 by 10 hold 0; lay 0 at 0 stem 0; lay 1 at 0 gain 1 stem 2; dip 2 under 0 by 50 hold 0; end");
        heard(x, f, 0, 95, 95, 100);
        int e = mix(x, "sheet lay 0 at 0 stem 0; dip 0 under 1 by 100 hold 60; lay 1 at mark 0 - 1 stem 1; end");
        heard(x, e, 0, 100, 100);
    }

    private static void makesTaps() {
        MixStage x = reel(2);
        tone(x, 3, 100, 100);
        int a = mix(x, "sheet taps 0 of 100, 50; lay 0 at 0 stem 0; end");
        heard(x, a, 0, 100, 250, 400, 150, 0, 0);
        int b = mix(x, "sheet lay 0 at 0 stem 0; taps 0 of 0, 0, 0, 200; taps 0 of 0, 10; taps 1 of 0; end");
        heard(x, b, 0, 0, 0, 0, 0, 20, 40, 60, 0);
        // dips go ahead of all taps
        int c = mix(x, "sheet lay 0 at 0 stem 0; taps 0 of 0, 100; dip 0 under 0 by 50 hold 0; end");
        heard(x, c, 0, 0, 50, 100, 150, 0);
        int d = mix(x, "sheet lay 0 at 0 stem 0; taps 0 of 400; taps 0 of 400; taps 0 of 400; end");
        heard(x, d, 0, 6400, 9999, 9999, 0);
        int f = mix(x, "sheet taps 1 of 0, 100; lay 0 at 1 from 0 stem 1; lay 0 at 1 gain 1 speed 1/1 stem 2; end");
        heard(x, f, 3, 0, 1, 102, 203, 300);
        int g = mix(x, "sheet taps 1 of 0, 0, 100; lay 0 at 1 stem 1; end");
        heard(x, g, 4, 0, 0, 100, 200);
        StringBuilder many = new StringBuilder("block b ");
        for (int i = 0; i < 16; i++) {
            many.append("taps 0 of 400;");
        }
        // 100 by 4, 32 times over, does not fit in 64 bits
        many.append("end sheet lay 0 at 0 for 1 stem 0; use b at 0; use b at 0; clip 5; end");
        int e = mix(x, many.toString());
        long v = 100;
        for (int i = 0; i < 32; i++) {
            v = v * 400 / 100;
        }
        due("sums of 64 bits", x.heard(e, 0), Math.max(-5, Math.min(5, v)));
    }

    private static void makesEditions() {
        MixStage x = reel(3);
        tone(x, 12, 1, 1);
        tell(x, "sheet lay 0 at 0 stem 0; end");
        x.edition();
        x.keep(2, 3);
        x.blank(1);
        x.keep(0, 2);
        x.edition();
        x.keep(1, 3);
        x.keep(0, 1);
        int mix = x.mixed();
        x.make(mix, 0, 1);
        due("length", x.length(mix), 16);
        heard(x, mix, 0, 9, 10, 11, 12, 0, 0, 0, 0, 1, 2, 3, 4, 5, 6, 7, 8, 0);
        x.make(mix, 0, 2);
        due("length", x.length(mix), 12);
        heard(x, mix, 0, 0, 0, 0, 0, 1, 2, 3, 4, 9, 10, 11, 12, 0);
        due("EDITION", x.about(mix, 6), 2);
        x.edition();
        due("an EDITION without FRAMES", x.make(mix, 0, 3) > 0, true);
        due("length", x.length(mix), 0);
    }

    private static void agains() {
        MixStage x = reel(1);
        int tone = tone(x, 4, 1, 0);
        int late = x.mixed();
        int early = x.mixed();
        int other = x.mixed();
        tell(x, "sheet lay 0 at 0 stem 0; end");
        tell(x, "sheet lay 2 at 0 stem 0; lay 2 at 0 stem 0; end");
        tell(x, "sheet lay 0 at mark 3 stem 0; end");
        x.make(early, 0, 0);
        x.make(late, 1, 0);
        x.make(other, 2, 0);
        due("none STALE", x.again(), 0);
        x.mark(4, 1);
        due("another MARK", x.again(), 0);
        x.mark(3, 0);
        due("the MARK, told alike", x.again(), 1);
        x.sample(tone, 0, 5);
        due("all", x.again(), 3);
        // first the one that is laid, though its number is greater
        heard(x, late, 0, 10, 2);
        heard(x, early, 0, 5, 1);
        due("STAMP of the first", x.about(early, 3), x.count(3) - 2);
        due("STAMP of the second", x.about(late, 3), x.count(3) - 1);
        due("STAMP of the third", x.about(other, 3), x.count(3));
        due("none left", x.again(), 0);
        x.make(early, 0, 0);
        due("one that leans on what was made", x.again(), 1);
        MixStage y = reel(1);
        int first = y.mixed();
        int second = y.mixed();
        tone(y, 4, 1, 0);
        tell(y, "sheet lay 2 at mark 0 stem 0; end");
        tell(y, "sheet lay 0 at 0 stem 0; end");
        y.make(first, 0, 0);
        y.make(second, 1, 0);
        y.mark(0, 0);
        due("the MARK of one, and one that leans on it", y.again(), 2);
        due("STAMP of the first", y.about(first, 3), y.count(3) - 1);
        y.hisses(1, 4);
        due("HISS of SOUND 0 laid", y.about(second, 2), 4);
        y.sample(2, 0, 3);
        MixStage z = reel(1);
        tell(z, "sheet lay 0 at mark 0 stem 0; end");
        tone(z, 4, 1, 1);
        for (int i = 1; i < 20; i++) {
            z.mixed();
            z.make(i, 0, 0);
        }
        due("none", z.again(), 0);
        z.mark(0, 0);
        int before = z.count(3);
        due("nineteen", z.again(), 19);
        for (int i = 1; i < 20; i++) {
            due("STAMP of " + i, z.about(i, 3), before + i);
        }
        due("as they were made last", y.again(), 2);
        heard(y, second, 0, 3, 1);
    }

    private static void lengths() {
        MixStage x = reel(2);
        due("length(0)", x.length(0), -1);
        due("length(-1)", x.length(-1), -1);
        x.sound(0, 240, 0, 0);
        due("length(0)", x.length(0), 240);
        x.sound(2, -1, 0, 0);
        due("MISSING", x.length(1), 0);
        int mix = x.mixed();
        due("not made", x.length(mix), 0);
        int cut = x.trim(mix, 2, 200);
        due("TRIMMED of one not made", x.length(cut), 0);
        tell(x, "sheet end");
        x.make(mix, 0, 0);
        due("made", x.length(mix), 8);
        due("TRIMMED", x.length(cut), 6);
        due("length(20)", x.length(20), -1);
    }

    private static void heards() {
        MixStage x = new MixStage();
        tone(x, 3, 5, 1);
        heard(x, 0, -2, 0, 0, 5, 6, 7, 0, 0);
        due("heard(0, max)", x.heard(0, Integer.MAX_VALUE), 0);
        due("heard(0, min)", x.heard(0, Integer.MIN_VALUE), 0);
        due("heard(1, 0)", x.heard(1, 0), 0);
        due("heard(-1, 0)", x.heard(-1, 0), 0);
        x.sound(1, 3, 0, 2);
        x.wave(1, 0, 3, 1, 1);
        heard(x, 1, 0, 1, 2, 3, 0);
    }

    private static void abouts() {
        MixStage x = reel(1);
        for (int kind = 0; kind < 4; kind++) {
            x.sound(kind, 4, 0, 1);
            due("kind", x.about(kind, 0), kind);
        }
        x.trim(0, 0, 2);
        due("kind", x.about(4, 0), 4);
        due("STAMP", x.about(4, 3), 5);
        x.sample(0, 0, 1);
        due("its own STAMP alone", x.about(4, 3), 5);
        due("its own STAMP", x.about(0, 3), 6);
        due("GENERATION", x.about(0, 1), 0);
        due("STALE", x.about(0, 4), 0);
        due("SHEET", x.about(0, 5), -1);
        due("EDITION", x.about(0, 6), -1);
        due("what", x.about(0, 7), -1);
        due("what", x.about(0, -1), -1);
        due("no such SOUND", x.about(5, 0), -1);
        due("no such SOUND", x.about(-1, 4), -1);
        int mix = x.mixed();
        due("not made", x.about(mix, 4), 0);
        tell(x, "sheet end");
        tell(x, "sheet lay 4 at 0 stem 0; fade 0 from mark 1 to mark 2 gain 1, 1; end");
        x.make(mix, 1, 0);
        due("SHEET", x.about(mix, 5), 1);
        due("EDITION", x.about(mix, 6), 0);
        due("STALE", x.about(mix, 4), 0);
        x.sample(0, 0, 1);
        due("STALE by what the TRIMMED one leans on", x.about(mix, 4), 1);
        x.again();
        x.mark(2, 0);
        due("STALE by a fade's end", x.about(mix, 4), 1);
        x.again();
        x.mark(3, 0);
        x.sample(1, 0, 1);
        due("not STALE", x.about(mix, 4), 0);
        aboutsBlocks();
    }

    private static void aboutsBlocks() {
        MixStage x = reel(1);
        tone(x, 4, 1, 0);
        int one = mix(x, "block a lay 0 at 0 stem 0; lay 0 at mark 1 stem 0; end block b clip 4; end sheet use a at mark 2; use b at mark 3; end");
        x.mark(3, 0);
        due("a use alone is no CUE", x.about(one, 4), 0);
        x.mark(2, 0);
        due("a use's MARK", x.about(one, 4), 1);
        x.again();
        x.mark(1, 0);
        due("a MARK in a block", x.about(one, 4), 1);
        x.again();
        int two = mix(x, "sheet lay " + one + " at 0 stem 0; end");
        int cut = x.trim(two, 0, 2);
        x.mark(1, 0);
        due("STALE by a STALE one", x.about(two, 4), 1);
        due("only MIXED ones are STALE", x.about(cut, 4), 0);
    }

    private static void leanings() {
        MixStage x = reel(1);
        due("leans(0)", x.leans(0), -1);
        due("leans(-1)", x.leans(-1), -1);
        x.sound(2, 4, 0, 0);
        x.mute(0);
        x.trim(1, 0, 2);
        x.mixed();
        tell(x, "sheet lay 2 at 0 stem 0; end");
        due("PLAIN", x.leans(0), 0);
        due("MUTED", x.leans(1), 1);
        due("TRIMMED", x.leans(2), 3);
        due("not made", x.leans(3), 0);
        x.make(3, 0, 0);
        due("MIXED", x.leans(3), 7);
        x.mixed();
        tell(x, "block a lay 3 at 0 stem 0; end block b lay 1 at 0 stem 0; end sheet use a at 0; end");
        x.make(4, 1, 0);
        due("what a block lays", x.leans(4), 15);
        due("leans(5)", x.leans(5), -1);
    }

    private static void cueCounts() {
        MixStage x = reel(1);
        due("cues(0)", x.cues(0), -1);
        tell(x, "sheet end");
        tell(x, "block a clip 1; clip 2; end block b use a at 0; use a at 0; clip 3; end sheet use b at 0; clip 4; use a at 1; end");
        due("cues(0)", x.cues(0), 0);
        due("cues(1)", x.cues(1), 8);
        due("cues(2)", x.cues(2), -1);
        due("cues(-1)", x.cues(-1), -1);
        int[] clips = {1, 2, 1, 2, 3, 4, 1, 2};
        for (int k = 0; k < 8; k++) {
            due("order", x.cue(1, k, 2), clips[k]);
        }
        String nested = "block a clip 1; end block b use a at 0; end block c use b at 0; end block d use c at 0; end"
                + " block e use d at 0; end block zzz use e at 0; end sheet use zzz at 0; end";
        due("blocks in blocks", tell(x, nested), 0);
        due("blocks in blocks", x.cues(2), 1);
    }

    private static void cueParts() {
        MixStage x = reel(9);
        x.mark(2, 5);
        String block = "block a lay 7 at 3 stem 1; fade 2 from 1 to mark 1 gain 1, 1; lay 6 at mark 2 + 1 stem 0; end ";
        String sheet = "sheet use a at 2; dip 1 under 2 by 3 hold 4; taps 2 of 1; clip 77; use a at mark 2 - 1; end";
        tell(x, block + sheet);
        int[] kinds = {0, 1, 0, 2, 3, 4, 0, 1, 0};
        int[] frames = {5, 3, 6, -1, -1, -1, 7, 5, 6};
        int[] thirds = {7, 2, 6, 1, 2, 77, 7, 2, 6};
        int lay = block.indexOf("lay 7");
        int fade = block.indexOf("fade");
        int last = block.indexOf("lay 6");
        int[] places = {lay, fade, last, block.length() + sheet.indexOf("dip"), block.length() + sheet.indexOf("taps"),
            block.length() + sheet.indexOf("clip"), lay, fade, last};
        for (int k = 0; k < 9; k++) {
            due("kind of " + k, x.cue(0, k, 0), kinds[k]);
            due("FRAME of " + k, x.cue(0, k, 1), frames[k]);
            due("SOUND or STEM of " + k, x.cue(0, k, 2), thirds[k]);
            due("place of " + k, x.cue(0, k, 3), places[k]);
        }
        due("what", x.cue(0, 0, 4), -1);
        due("what", x.cue(0, 0, -1), -1);
        due("k", x.cue(0, 9, 0), -1);
        due("k", x.cue(0, -1, 0), -1);
        due("sheet", x.cue(1, 0, 0), -1);
        tell(x, "block a lay 1 at 1 stem 0; end block b use a at 10; use a at mark 2; end sheet use b at mark 3 + 4; end");
        due("a block in a block", x.cue(1, 0, 1), 15);
        due("a block in a block, by a MARK", x.cue(1, 1, 1), 6);
        x.mark(3, 20);
        due("as MARKS are now", x.cue(1, 0, 1), 35);
        due("as MARKS are now", x.cue(1, 1, 1), 6);
    }

    private static void fates() {
        MixStage x = reel(6);
        tone(x, 8, 1, 1);
        tell(x, "sheet lay 0 at 1 stem 0; lay 0 at 6 stem 0; lay 9 at 0 stem 0; lay 0 at 5 for 0 stem 0; clip 1; lay 0 at 3 for 1 stem 0; end");
        due("in its own EDITION", x.fate(0, 0, 0), 0);
        due("HEARD nowhere", x.fate(0, 1, 0), 2);
        due("no such SOUND", x.fate(0, 2, 0), 2);
        due("for no SAMPLES", x.fate(0, 3, 0), 2);
        due("no lay", x.fate(0, 4, 0), -1);
        due("no such CUE", x.fate(0, 6, 0), -1);
        due("no such CUE", x.fate(0, -1, 0), -1);
        due("no such SHEET", x.fate(1, 0, 0), -1);
        due("no such EDITION", x.fate(0, 0, 1), -1);
        x.edition();
        x.keep(2, 4);
        x.blank(1);
        x.keep(1, 2);
        due("PARTED", x.fate(0, 0, 1), 1);
        due("MOVED", x.fate(0, 5, 1), 0);
        x.edition();
        x.keep(0, 2);
        due("one left", x.fate(0, 0, 2), 1);
        due("MOVED", x.fate(0, 5, 2), 0);
        x.edition();
        x.keep(1, 2);
        x.keep(1, 2);
        due("GONE", x.fate(0, 0, 3), 2);
        due("OPEN", x.fate(0, 5, 3), 3);
        x.edition();
        due("GONE in an empty one", x.fate(0, 5, 4), 2);
        MixStage y = reel(3);
        tone(y, 8, 1, 1);
        tell(y, "sheet lay 0 at 0 stem 0; end");
        y.edition();
        y.keep(1, 2);
        y.keep(0, 1);
        due("turned about", y.fate(0, 0, 1), 1);
        y.keep(1, 2);
        due("OPEN ahead of PARTED", y.fate(0, 0, 1), 3);
        tell(y, "sheet lay 0 at 0 stem 0; end");
        due("ahead of the SHEET's EDITION", y.fate(1, 0, 0), -1);
        y.edition();
        y.blank(1);
        y.keep(0, 2);
        due("MOVED", y.fate(1, 0, 2), 0);
        MixStage z = reel(60);
        tone(z, 1, 1, 1);
        tell(z, "sheet lay 0 at 59 stem 0; lay 0 at 0 stem 0; end");
        due("HEARD in one SAMPLE", z.fate(0, 0, 0), 0);
        due("HEARD in one SAMPLE", z.fate(0, 1, 0), 0);
        due("the first FRAME", z.goes(0, 1, 0), 0);
        due("the last FRAME", z.goes(0, 0, 0), 59);
    }

    private static void goings() {
        MixStage x = reel(6);
        tone(x, 8, 1, 1);
        tell(x, "sheet lay 0 at 1 stem 0; lay 0 at 6 stem 0; clip 1; end");
        due("goes(0, 0, 0)", x.goes(0, 0, 0), 1);
        due("HEARD nowhere", x.goes(0, 1, 0), -1);
        due("no lay", x.goes(0, 2, 0), -1);
        due("no such CUE", x.goes(0, 3, 0), -1);
        due("no such SHEET", x.goes(-1, 0, 0), -1);
        due("no such EDITION", x.goes(0, 0, 1), -1);
        x.edition();
        x.blank(3);
        x.keep(2, 3);
        x.keep(1, 2);
        due("the first of all", x.goes(0, 0, 1), 3);
        tell(x, "sheet lay 0 at 4 stem 0; end");
        due("ahead of the SHEET's EDITION", x.goes(1, 0, 0), -1);
        due("goes(1, 0, 1)", x.goes(1, 0, 1), 4);
        x.edition();
        x.keep(0, 3);
        due("GONE", x.goes(0, 0, 2), -1);
    }

    private static void quarrels() {
        MixStage x = reel(9);
        String text = "sheet fade 0 from 0 to 4 gain 1, 1; fade 1 from 2 to 6 gain 1, 1; fade 0 from 4 to 8 gain 1, 1;"
                + " fade 0 from 3 to 9 gain 1, 1; fade 1 from 2 to 2 gain 1, 1; fade 1 from mark 0 to 1 gain 1, 1; end";
        tell(x, text);
        // 0 and 3: 3 < 4; 2 and 3: 2 is later, 4 < 9; 1 and 4: alike, the later told begins ahead of 6; 0 and 2: 4 < 4 not
        int[] want = {3, 64 + 4, 2 * 64 + 3, -1};
        for (int i = 0; i < 4; i++) {
            due("quarrel(0, " + i + ")", x.quarrel(0, i), want[i]);
        }
        x.mark(0, 5);
        // 5 begins at 5, ahead of 6, and ends at 1
        int[] now = {3, 64 + 4, 64 + 5, 2 * 64 + 3, -1};
        for (int i = 0; i < 5; i++) {
            due("quarrel(0, " + i + ") then", x.quarrel(0, i), now[i]);
        }
        due("quarrel(0, -1)", x.quarrel(0, -1), -1);
        due("quarrel(1, 0)", x.quarrel(1, 0), -1);
        MixStage y = reel(9);
        for (int m = 0; m < 8; m++) {
            y.mark(m, 20 + m);
        }
        tell(y, text);
        for (int i = 0; i < 4; i++) {
            due("quarrel(0, " + i + ") with MARKS far behind", y.quarrel(0, i), want[i]);
        }
        // 25 is ahead of the MARK's 26, 24 is not ahead of 24
        tell(y, "sheet fade 0 from mark 5 to 0 gain 1, 1; fade 0 from 3 to mark 6 gain 1, 1; fade 1 from mark 4 to 0 gain 1, 1;"
                + " fade 1 from 5 to mark 4 gain 1, 1; end");
        due("ahead of an end by a MARK", y.quarrel(1, 0), 1);
        due("at an end by a MARK", y.quarrel(1, 1), -1);
        tell(y, "sheet fade 0 from 3 to mark 6 gain 1, 1; fade 0 from mark 5 to 0 gain 1, 1; fade 1 from 5 to mark 4 gain 1, 1;"
                + " fade 1 from mark 4 to 0 gain 1, 1; end");
        due("ahead of an end by a MARK", y.quarrel(2, 0), 1);
        due("at an end by a MARK", y.quarrel(2, 1), -1);
        tell(y, "sheet lay 0 at 3 stem 0; dip 0 under 0 by 1 hold 1; taps 0 of 1; clip 9; fade 0 from 1 to 5 gain 1, 1; lay 0 at 3 stem 0;"
                + " dip 0 under 0 by 1 hold 1; taps 0 of 1; fade 1 from 2 to 4 gain 1, 1; fade 2 from 1 to 5 gain 1, 1; end");
        due("fades of one STEM alone", y.quarrel(3, 0), -1);
        // of two alike the later told begins later: ahead of the end of the one told first
        tell(x, "sheet fade 2 from 3 to 3 gain 1, 1; fade 2 from 3 to 9 gain 1, 1; lay 0 at 3 stem 2; end");
        due("alike", x.quarrel(1, 0), -1);
        tell(x, "sheet fade 2 from 3 to 9 gain 1, 1; fade 2 from 3 to 3 gain 1, 1; end");
        due("alike", x.quarrel(2, 0), 1);
        tell(x, "sheet fade 2 from 3 to 9 gain 1, 1; fade 2 from 1 to 3 gain 1, 1; fade 2 from 9 to 10 gain 1, 1; end");
        due("at the end of the other", x.quarrel(3, 0), -1);
        fullSheets();
    }

    /** Forty CUES, all put in: the most that a SHEET has. */
    private static MixStage forty(String cue) {
        MixStage x = reel(1);
        tone(x, 4, 100, 0);
        String ten = times(10, cue);
        due("read", tell(x, "block a " + ten + "end block b " + ten + "use a at 0; end sheet use b at 0; use b at 0; end"), 0);
        due("cues(0)", x.cues(0), 40);
        return x;
    }

    private static void fullSheets() {
        MixStage x = forty("fade 0 from 1 to 2 gain 0, 0;");
        due("the first pair", x.quarrel(0, 0), 1);
        due("the last of the first", x.quarrel(0, 38), 39);
        due("the first of the second", x.quarrel(0, 39), 64 + 2);
        due("the last pair", x.quarrel(0, 779), 64 * 38 + 39);
        due("behind the last", x.quarrel(0, 780), -1);
        due("far behind", x.quarrel(0, Integer.MAX_VALUE), -1);
        due("far ahead", x.quarrel(0, Integer.MIN_VALUE), -1);
        due("the last CUE", x.cue(0, 39, 1), 1);
        due("behind it", x.cue(0, 40, 1), -1);
        MixStage y = forty("lay 0 at 0 gain 99 stem 1;");
        int mix = y.mixed();
        y.make(mix, 0, 0);
        heard(y, mix, 0, 40 * 99, 40 * 99, 40 * 99, 40 * 99, 0);
        due("fate of the last", y.fate(0, 39, 0), 0);
        due("goes of the last", y.goes(0, 39, 0), 0);
        due("behind it", y.fate(0, 40, 0), -1);
        tell(y, "rules loud 143 in 1; end");
        // 4 * 3960 is 15840, a lay at half (49) gives 200 less
        due("all of the first eight", y.tame(0), 255);
        tell(y, "rules loud 142 in 1; end");
        due("the others stay", y.tame(0), -2);
    }

    private static void louds() {
        MixStage x = new MixStage();
        x.sound(0, 14, 0, 0);
        x.wave(0, 0, 14, -1, 0);
        x.sample(0, 6, 10);
        x.sample(0, 12, 50);
        due("loud(0, 1)", x.loud(0, 1), 13);
        due("loud(0, 2)", x.loud(0, 2), 17);
        due("loud(0, 3)", x.loud(0, 3), 21);
        due("of all its SAMPLES", x.loud(0, 4), 72);
        due("of all its SAMPLES", x.loud(0, 60), 72);
        due("loud(0, 0)", x.loud(0, 0), -1);
        due("loud(0, 61)", x.loud(0, 61), -1);
        due("loud(1, 1)", x.loud(1, 1), -1);
        due("loud(-1, 1)", x.loud(-1, 1), -1);
        x.sound(0, -1, 0, 0);
        due("MISSING", x.loud(1, 1), 0);
        x.trim(0, 1, 10);
        due("TRIMMED", x.loud(2, 2), 17);
        due("TRIMMED", x.loud(2, 1), 4 + 9);
        x.sample(0, 12, -1);
        x.sample(0, 6, -1);
        x.sample(0, 7, 3);
        // rows begin with SAMPLE 0, 4, 8 alone: 1 + 1 + 1 + 3, not one SAMPLE later
        x.sample(0, 10, 3);
        due("rows begin with 0, 4, 8", x.loud(0, 1), 6);
        x.mixed();
        due("not made", x.loud(3, 1), 0);
    }

    private static void tames() {
        MixStage x = reel(2);
        tone(x, 8, 100, 0);
        tell(x, "sheet lay 0 at 0 gain 30 stem 0; lay 0 at 0 gain 101 stem 1; lay 0 at 1 gain 300 stem 0; lay 0 at 0 gain 101 stem 2; end");
        due("no loud RULE", x.tame(0), -1);
        tell(x, "rules right 1; end");
        due("no loud RULE", x.tame(0), -1);
        // FRAME 0: 4 * 232 = 928; FRAME 1: 4 * 532 = 2128
        tell(x, "rules right 1; loud 22 in 1; loud 1 in 1; end");
        due("none needed", x.tame(0), 0);
        tell(x, "rules loud 21 in 1; end");
        // lay 0 gives 15 less a SAMPLE: 2068
        due("the first lay", x.tame(0), 1);
        tell(x, "rules loud 20 in 1; end");
        // lay 1 gives 51 less (101 / 2 is 50): 1924
        due("the second lay", x.tame(0), 2);
        tell(x, "rules loud 16 in 1; end");
        due("the third lay", x.tame(0), 4);
        tell(x, "rules loud 13 in 1; end");
        // 2128 - 600 = 1528 with the third, 1324 with the second or fourth too, 1264 with the first too
        due("three of them", x.tame(0), 1 + 2 + 4);
        tell(x, "rules loud 14 in 1; end");
        due("the first of two pairs", x.tame(0), 2 + 4);
        tell(x, "rules loud 10 in 1; end");
        due("none holds", x.tame(0), -2);
        due("no such SHEET", x.tame(1), -1);
        tell(x, "rules loud 0 in 1; end");
        tell(x, "sheet end");
        due("without lays", x.tame(1), 0);
        String nine = "lay 0 at 0 gain 0 stem 0;";
        tell(x, "sheet " + times(8, nine) + "lay 0 at 0 stem 0; end");
        due("the ninth is not asked", x.tame(2), -2);
        tell(x, "sheet " + times(7, nine) + "clip 9999; lay 0 at 0 gain 1 stem 0; end");
        due("the eighth", x.tame(3), 128);
    }

    private static void seams() {
        MixStage x = new MixStage();
        x.sound(1, 10, 2, 6);
        x.wave(0, 0, 10, 5, 7);
        due("seam(0)", x.seam(0), 21);
        x.sample(0, 5, -9999);
        x.sample(0, 2, 9999);
        due("seam(0)", x.seam(0), 19998);
        x.sound(1, 3, 1, 2);
        x.wave(1, 0, 3, 5, 7);
        due("a LOOP of one", x.seam(1), 0);
        x.sound(1, -1, 1, 2);
        due("MISSING", x.seam(2), -1);
        x.sound(0, 3, 0, 1);
        due("PLAIN", x.seam(3), -1);
        x.trim(0, 0, 3);
        due("TRIMMED", x.seam(4), -1);
        due("no such SOUND", x.seam(5), -1);
        due("no such SOUND", x.seam(-1), -1);
    }

    private static void fit(MixStage x, int one, int other, int slack, int lack, int shift, int stretch) {
        due("not MET", x.fit(one, other, slack, 0), lack);
        due("shift", x.fit(one, other, slack, 1), shift);
        due("stretch", x.fit(one, other, slack, 2), stretch);
    }

    private static void fits() {
        MixStage x = new MixStage();
        int none = line(x);
        int a = line(x, 10, 20, 30);
        int b = line(x, 13, 23, 33);
        int c = line(x, 9, 18, 27);
        int d = line(x, 11, 22, 33);
        int e = line(x, 59);
        int f = line(x, 5, 15);
        int g = line(x, 10);
        fit(x, none, a, 0, 0, 0, 10);
        fit(x, a, none, 9, 3, 0, 10);
        fit(x, a, b, 0, 0, 3, 10);
        fit(x, a, b, 3, 0, 0, 10);
        // 12, 23, 34
        fit(x, a, b, 1, 0, 1, 11);
        fit(x, b, a, 0, 0, -3, 10);
        fit(x, a, c, 0, 0, 0, 9);
        fit(x, a, d, 0, 0, 0, 11);
        // 10 tenths first, and s below 0 first
        fit(x, g, f, 0, 0, -4, 9);
        fit(x, g, f, 4, 0, 0, 9);
        fit(x, g, f, 5, 0, 0, 10);
        fit(x, e, g, 0, 1, 0, 10);
        int h = line(x, 34);
        fit(x, g, h, 0, 0, 23, 11);
        fit(x, g, line(x, 35), 0, 0, 24, 11);
        fit(x, h, line(x, 6), 0, 0, -24, 9);
        fit(x, g, line(x, 36), 0, 1, 0, 10);
        due("no such what", x.fit(a, b, 0, 3), -1);
        due("no such what", x.fit(a, b, 0, -1), -1);
        due("one and the same", x.fit(a, a, 0, 0), -1);
        due("one and the same", x.fit(a, a, 0, 1), -100);
        due("one and the same", x.fit(a, a, 0, 2), -1);
        due("slack", x.fit(a, b, 10, 0), -1);
        due("slack", x.fit(a, b, -1, 1), -100);
        due("no such LINE", x.fit(a, 19, 0, 1), -100);
        due("no such LINE", x.fit(-1, a, 0, 2), -1);
        x.sound(0, 4, 0, 0);
        due("no LINE", x.fit(a, x.count(1) - 1, 0, 0), -1);
    }

    private static void soundings() {
        MixStage x = reel(6);
        int music = x.sound(3, 24, 4, 0);
        x.wave(music, 0, 8, 100, 0);
        x.wave(music, 12, 16, 1, 0);
        int cut = x.trim(music, 0, 6);
        int other = x.sound(3, 4, 2, 0);
        tell(x, "sheet lay 0 at 0 stem 0; end");
        due("FRAMES 0, 1, 3", x.sounding(0, music, 0), 3);
        due("another MUSIC", x.sounding(0, other, 0), 0);
        tell(x, "sheet lay 0 at 0 gain 99 stem 0; lay 1 at 4 stem 1; lay 2 at 3 stem 0; end");
        due("1 by 99 hundredths is 0", x.sounding(1, music, 0), 4);
        due("all 0", x.sounding(1, other, 0), 0);
        due("no MUSIC", x.sounding(1, cut, 0), -1);
        due("no such SOUND", x.sounding(1, 3, 0), -1);
        due("no such SHEET", x.sounding(2, music, 0), -1);
        due("no such EDITION", x.sounding(1, music, 1), -1);
        x.edition();
        x.keep(1, 2);
        x.keep(0, 2);
        x.keep(2, 4);
        x.blank(1);
        due("in a cut", x.sounding(0, music, 1), 4);
        due("in a cut", x.sounding(1, music, 1), 3);
        tell(x, "sheet lay 0 at 0 stem 0; end");
        due("ahead of the SHEET's EDITION", x.sounding(2, music, 0), -1);
        due("in its own", x.sounding(2, music, 1), 3);
        MixStage y = reel(2);
        y.sound(3, 8, 0, 0);
        y.wave(0, 0, 8, 5, 0);
        tell(y, "sheet lay 0 at 0 stem 0; fade 0 from 0 to 0 gain 0, 0; lay 0 at 0 gain 0 stem 0; end");
        due("what the lay gives, ahead of the fader", y.sounding(0, 0, 0), 2);
        tell(y, "sheet lay 0 at 0 gain 0 stem 0; end");
        due("played at nothing", y.sounding(1, 0, 0), 0);
    }

    private static void oweds() {
        MixStage x = reel(60);
        int music = x.sound(3, 200, 6, 0);
        x.wave(music, 0, 200, 9, 0);
        x.trim(music, 0, 4);
        x.trim(1, 0, 3);
        tell(x, "sheet lay 0 at 0 stem 0; lay 1 at 0 stem 0; lay 2 at 59 stem 0; lay 3 at 0 stem 0; clip 9; end");
        due("without RULES", x.owed(0, music, 0, 0), 0);
        rule(x, "right frames;", 0, 51);
        rule(x, "right seconds;", 0, 3);
        rule(x, "right owner * 10 + land;", 9, 69);
        rule(x, "right heard;", 0, 3);
        rule(x, "right 2 + 3 * 4 - 10 / 4;", 0, 12);
        rule(x, "right (2 + 3) * (4 - 1) / 2;", 0, 7);
        rule(x, "right 100 / 10 / 5;", 0, 2);
        rule(x, "right 10 - 4 - 3;", 0, 3);
        rule(x, "right (0 - 7) / 2 + 4;", 0, 1);
        rule(x, "right 0 - 1;", 0, 0);
        rule(x, "right 9999 * 9999;", 0, 999999);
        rule(x, "right 9999 * 9999 * 50;", 0, 704032354L > 999999 ? 999999 : 0);
        rule(x, "right 9999 * 9999 * 30;", 0, 0);
        rule(x, "right 1 if land == 1; right 2 if land != 2; right 3;", 1, 1);
        rule(x, "right 1 if land == 1; right 2 if land != 2; right 3;", 2, 3);
        rule(x, "right 1 if land == 1; right 2 if land != 2; right 3;", 0, 2);
        rule(x, "right 1 if 1 < 2;", 0, 1);
        rule(x, "right 1 if 2 < 2; right 4 if 2 <= 2;", 0, 4);
        rule(x, "right 1 if not 1 == 1;", 0, 0);
        rule(x, "right 1 if not not 1 == 1;", 0, 1);
        rule(x, "right 1 if 1 == 1 or 1 == 1 and 1 == 2;", 0, 1);
        rule(x, "right 1 if 1 == 2 and 1 == 1 or 1 == 1;", 0, 1);
        rule(x, "right 1 if 1 == 2 and (1) == 1 or 1 == 1 and 2 == 1;", 0, 0);
        rule(x, "right 1 if not 1 == 2 and 1 == 1;", 0, 1);
        rule(x, "right 5 / land; right 8;", 0, 8);
        rule(x, "right 5 / land; right 8;", 5, 1);
        rule(x, "right 5 if 1 == 1 or 1 / land == 1; right 8;", 0, 8);
        rule(x, "right 5 if 1 == 2 and 1 / (land - 1) == 1; right 8;", 1, 8);
        rule(x, "right 5 / 0 if 1 == 2; right 9;", 1, 9);
        rule(x, "loud 1 in 1; right 7;", 0, 7);
        due("no such land", x.owed(0, music, 0, 10), -1);
        due("no such land", x.owed(0, music, 0, -1), -1);
        due("no MUSIC", x.owed(0, 1, 0, 0), -1);
        due("no such SOUND", x.owed(0, 3, 0, 0), -1);
        rule(x, "right 1 if 3 <= 2; right 2 if 3 < 2; right 3 if 2 != 2; right 4 if 3 == 2; right 5;", 0, 5);
        rule(x, "right 1 if 1 == 2 or 1 == 2 and 1 == 1 or 2 == 2; right 2;", 0, 1);
        rule(x, "right 1 if 1 == 1 and 1 == 1 and 1 == 2; right 2;", 0, 2);
        rule(x, "right 1 if 1 == 1 and 1 == 2 or 1 == 2 and 1 == 1; right 2;", 0, 2);
        due("no such SHEET", x.owed(1, music, 0, 0), -1);
        due("no such EDITION", x.owed(0, music, 1, 0), -1);
        tell(x, "rules right frames * 100 + seconds * 10 + heard; end");
        x.edition();
        x.keep(40, 60);
        x.keep(40, 55);
        // 10 FRAMES twice and the one of the last lay
        due("in a cut", x.owed(0, music, 1, 0), 2113);
        tell(x, "sheet end");
        due("ahead of the SHEET's EDITION", x.owed(1, music, 0, 0), -1);
        due("not laid", x.owed(1, music, 1, 0), 0);
    }

    private static void rule(MixStage x, String rules, int land, int want) {
        due("read() of " + rules, tell(x, "rules " + rules + " end"), 0);
        due("owed with " + rules, x.owed(0, 0, 0, land), want);
    }

    private static void counts() {
        MixStage x = reel(2);
        x.edition();
        x.keep(0, 1);
        x.sound(0, 1, 0, 0);
        x.mixed();
        tell(x, "sheet end");
        x.make(1, 0, 1);
        tell(x, "rules right 1; loud 1 in 1; right 2; end");
        x.feed(0, 0, 0, 0, 0);
        int[] want = {2, 2, 1, 3, 3, 20};
        for (int what = 0; what < 6; what++) {
            due("count(" + what + ")", x.count(what), want[what]);
        }
        due("count(6)", x.count(6), -1);
        due("count(-1)", x.count(-1), -1);
        due("count(min)", x.count(Integer.MIN_VALUE), -1);
    }
}
