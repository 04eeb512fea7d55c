/** The document's "III. TEXTS", sentence by sentence: TOKENS, what goes on, FAULTS and their order, FRAMES and ints. */
public final class TextTest extends Kit {
    private static final String[] WORDS = ("block end sheet rules lay at from for gain speed stem fade to dip under by hold taps of"
            + " clip use mark right loud in if or and not seconds owner land frames heard").split(" ");
    private static final String SHEET = "block a lay 0 at mark 1 + 2 from 3 for 4 gain 5 speed 6 / 7 stem 1 ; end sheet"
            + " fade 0 from mark 0 - 1 to 2 gain 3 , 4 ; dip 0 under 1 by 2 hold 3 ; taps 0 of 1 , 2 ; clip 5 ; use a at mark 3 ; end";
    private static final String RULES = "rules right ( 1 + seconds ) * owner / 2 - land if not frames == 1 and heard != 2"
            + " or 1 < 2 and 3 <= 4 ; loud 1 in 2 ; end";
    /* A number in each place of a text, and the least and the greatest that it may be. */
    private static final String[] PLACES = {
        "sheet lay # at 0 stem 0; end", "0", "19",
        "sheet lay 0 at 0 stem #; end", "0", "2",
        "sheet fade # from 0 to 0 gain 0, 0; end", "0", "2",
        "sheet dip # under 0 by 0 hold 0; end", "0", "2",
        "sheet dip 0 under # by 0 hold 0; end", "0", "2",
        "sheet taps # of 0; end", "0", "2",
        "sheet lay 0 at mark # stem 0; end", "0", "7",
        "sheet fade 0 from mark # to 0 gain 0, 0; end", "0", "7",
        "sheet fade 0 from 0 to mark # gain 0, 0; end", "0", "7",
        "block a end sheet use a at mark #; end", "0", "7",
        "sheet lay 0 at # stem 0; end", "0", "60",
        "sheet lay 0 at mark 0 + # stem 0; end", "0", "60",
        "sheet lay 0 at mark 0 - # stem 0; end", "0", "60",
        "sheet lay 0 at 0 from # stem 0; end", "0", "60",
        "sheet lay 0 at 0 for # stem 0; end", "0", "60",
        "sheet fade 0 from # to 0 gain 0, 0; end", "0", "60",
        "sheet fade 0 from 0 to # gain 0, 0; end", "0", "60",
        "sheet fade 0 from 0 to mark 0 - # gain 0, 0; end", "0", "60",
        "sheet dip 0 under 0 by 0 hold #; end", "0", "60",
        "block a end sheet use a at #; end", "0", "60",
        "block a end sheet use a at mark 0 + #; end", "0", "60",
        "sheet lay 0 at 0 gain # stem 0; end", "0", "400",
        "sheet fade 0 from 0 to 0 gain #, 0; end", "0", "400",
        "sheet fade 0 from 0 to 0 gain 0, #; end", "0", "400",
        "sheet dip 0 under 0 by # hold 0; end", "0", "400",
        "sheet taps 0 of #; end", "0", "400",
        "sheet taps 0 of 0, #; end", "0", "400",
        "sheet taps 0 of 0, 0, 0, #; end", "0", "400",
        "sheet clip #; end", "0", "9999",
        "sheet lay 0 at 0 speed #/1 stem 0; end", "1", "9",
        "sheet lay 0 at 0 speed 1/# stem 0; end", "1", "9",
        "rules loud # in 1; end", "0", "9999",
        "rules loud 0 in #; end", "1", "60",
        "rules right #; end", "0", "9999",
        "rules right 0 if 0 < #; end", "0", "9999",
        "block a lay # at 0 stem 0; end sheet end", "0", "19",
    };

    public static void main(String[] args) {
        sizes();
        names();
        intsAndSigns();
        syntax();
        options();
        room();
        laterFaults();
        wrongInts();
        longSheets();
        tellings();
        framesOfTimes();
        blockFrames();
        intsThatWrap();
        divisions();
        finish("texts");
    }

    private static void sizes() {
        about("TEXTS have 2,000 bytes at most");
        MixStage x = new MixStage();
        String text = times(1991, " ") + "sheet end";
        feed(x, text);
        due("count(5)", x.count(5), 2000);
        due("feed", x.feed(0, 0, 0, 0, 0), -1);
        due("count(5)", x.count(5), 2000);
        due("read", x.read(), 0);
        due("count(5)", x.count(5), 0);
        feed(x, times(1995, " ") + "sheet");
        due("read", x.read(), 1);
        due("the text's end", x.place(), 2000);
        feed(x, times(1999, "\n") + "x");
        due("read", x.read(), 1);
        due("the last byte", x.place(), 1999);
        feed(x, "sheet " + times(1991, " ") + "end");
        due("read", x.read(), 0);
        due("a text anew", x.feed(0, 0, 0, 0, 0), 20);

        about("bytes that are taken back are none of the text's");
        without("sheet end", "x", 0, -1);
        without("sheet clip 9999", "9", 1, 15);
        without("rules right 1 if 1 =", "=", 1, 19);
        without("rules right 1 if 1 !", "=", 1, 19);
        without("block a end sheet use a at 0; en", "d", 1, 30);
        without("", "sheet end", 1, 0);

        about("blanks (9, 10, 13, 32) between or not");
        for (int c = 0; c < 256; c++) {
            boolean blank = c == 9 || c == 10 || c == 13 || c == 32;
            boolean letter = c >= 'a' && c <= 'z';
            fault((char) c + "sheet end", blank ? 0 : 1, blank ? -1 : 0);
            fault("sheet" + (char) c + "end", blank ? 0 : 1, blank ? -1 : letter ? 0 : 5);
            fault("sheet end" + (char) c, blank ? 0 : 1, blank ? -1 : letter ? 6 : 9);
        }
        good("sheet\t\n\r end\r\n");
        good("sheet lay0at1from2for3gain4speed5/6stem2;fade0from mark1+1to mark2-2gain3,4;clip5;end");
        good("rules right(1+seconds)*2if not(1)<=2and 3!=4or 5==6;loud7in8;end");
    }

    private static void without(String text, String more, int number, int place) {
        MixStage x = new MixStage();
        feed(x, text + more);
        x.back(more.length());
        due("read() of " + text, x.read(), number);
        due("place() of " + text, x.place(), place);
    }

    private static void names() {
        about("NAMES (letters a .. z, 8 at most, none of the words in quotes)");
        for (String name : new String[] {"a", "z", "az", "abcdefgh", "zzzzzzzz"}) {
            good("block " + name + " end sheet use " + name + " at 0; end");
        }
        for (String name : new String[] {"abcdefghi", "zzzzzzzzz", "A", "Z", "`", "{", "_", "1", ";", "endofthat"}) {
            fault("block " + name + " end sheet end", 1, 6);
            fault("sheet use " + name + " at 0; end", 1, 10);
        }
        fault("block aB end sheet end", 1, 7);
        fault("block a1 end sheet end", 1, 7);
        for (String word : WORDS) {
            fault("block " + word + " end sheet end", 1, 6);
            fault("sheet use " + word + " at 0; end", 1, 10);
            String less = word.substring(0, word.length() - 1);
            good("block " + less + " end sheet end");
            good("block " + word + "x end sheet end");
            good("block x" + word + " end sheet end");
        }
        fault("block a end block aa end block ab end block a end sheet end", 3, 44);
        good("block a end block aa end block aaa end block aaaa end block b end block ba end sheet end");
    }

    private static void intsAndSigns() {
        about("INTS (1 to 4 digits)");
        good("sheet clip 0; end");
        good("sheet clip 0000; end");
        good("sheet clip 9999; end");
        fault("sheet clip 00000; end", 1, 11);
        fault("sheet clip 10000; end", 1, 11);
        fault("sheet clip 12345678901234567890; end", 1, 11);
        fault("sheet clip /1; end", 1, 11);
        fault("sheet clip :; end", 1, 11);
        fault("sheet clip 1:; end", 1, 12);
        fault("sheet clip 1 2; end", 1, 13);
        fault("sheet clip -1; end", 1, 11);
        MixStage x = new MixStage();
        tell(x, "sheet clip 0123; clip 9; end");
        due("leading zeros", x.cue(0, 0, 2), 123);
        due("one digit", x.cue(0, 1, 2), 9);

        about("SIGNS ; , + - * / == != < <= ( )");
        good("rules right(1+2-3*4/5)if 1==2and 3!=4or 5<6and 7<=8;end");
        good("sheet taps 0 of 1,2;end");
        for (String sign : "; , + - * / == != < <= ( ) = ! 1".split(" ")) {
            fault(sign, 1, 0);
            fault(sign + " a end sheet end", 1, 0);
            fault("sheet " + sign + " a end", 1, 6);
        }
        for (int c = 33; c < 127; c++) {
            fault("sheet " + (char) c, 1, 6);
            boolean joins = "+-*/".indexOf(c) >= 0;
            fault("rules right 1 " + (char) c + " 2; end", joins ? 0 : 1, joins ? -1 : c == ';' ? 16 : 14);
            fault("rules right 1 if 1 " + (char) c + " 2; end", c == '<' ? 0 : 1, c == '<' ? -1 : joins ? 22 : 19);
        }

        about("TOKENS, the longest that can be");
        fault("rules right 1 if 1 = = 1; end", 1, 19);
        fault("rules right 1 if 1 ! = 1; end", 1, 19);
        fault("rules right 1 if 1 < = 1; end", 1, 21);
        fault("rules right 1 if 1 === 1; end", 1, 21);
        fault("rules right 1 if 1 !== 1; end", 1, 21);
        fault("rules right 1 if 1 <== 1; end", 1, 21);
        fault("rules right 1 if 1 << 1; end", 1, 20);
        fault("rules right 1 if 1 ==", 1, 21);
        fault("rules right 1 if 1 !=", 1, 21);
        fault("rules right 1 if 1 <=", 1, 21);
        fault("sheet clip 1;= end", 1, 13);
        fault("sheet taps 0 of 1,= end", 1, 18);
        fault("rules right (=1); end", 1, 13);
        fault("rules right (1)=1; end", 1, 15);
        for (String sign : "+ - * /".split(" ")) {
            fault("rules right 1 " + sign + "= 1; end", 1, 15);
        }
        fault("rules right 1 if 1 =", 1, 19);
        fault("rules right 1 if 1 !", 1, 19);
        fault("rules right 1 if 1 <", 1, 20);
        fault("sheetend", 1, 0);
        fault("sheet endx", 1, 6);
        fault("sheet lay 0 at 12345 stem 0; end", 1, 15);
        fault("sheet lay 0 at 60stem 0; endend", 1, 25);
        good("sheet lay 0at 60stem 0;end");
    }

    private static void syntax() {
        about("1 SYNTAX: at the text's end: its length");
        for (String text : new String[] {SHEET, RULES}) {
            String[] tokens = text.split(" ");
            StringBuilder ahead = new StringBuilder();
            for (String token : tokens) {
                fault(ahead.toString(), 1, ahead.length());
                ahead.append(token).append(' ');
            }
            good(ahead.toString());
        }
        fault("", 1, 0);
        fault(" \n", 1, 2);

        about("1 SYNTAX: a TOKEN, or what is none, with which no text goes on");
        for (String text : new String[] {SHEET, RULES}) {
            String[] tokens = text.split(" ");
            StringBuilder ahead = new StringBuilder();
            for (String token : tokens) {
                for (String wrong : new String[] {"$", "abcdefghi", "12345", "sheet", "rules", "loudx 1"}) {
                    boolean begins = ahead.length() == 0 && (wrong.equals("sheet") || wrong.equals("rules"));
                    if (!begins && !wrong.equals(token) && !(wrong.startsWith("loudx") && token.equals("a"))) {
                        fault(ahead + wrong, 1, ahead.length());
                    }
                }
                ahead.append(token).append(' ');
            }
            fault(ahead + ";", 1, ahead.length());
            fault(ahead + "end", 1, ahead.length());
        }
        fault("block a end rules end", 1, 12);
        fault("rules end sheet end", 1, 10);
        fault("block a block b end end sheet end", 1, 8);
        fault("sheet block a end end", 1, 6);
        fault("sheet end block a end", 1, 10);
        fault("sheet right 1; end", 1, 6);
        fault("rules clip 1; end", 1, 6);
        fault("block a right 1; end sheet end", 1, 8);
    }

    private static void options() {
        about("'lay' INT 'at' T ['from' INT] ['for' INT] ['gain' INT] ['speed' INT '/' INT] 'stem' INT ';'");
        String[] options = {"from 1 ", "for 1 ", "gain 1 ", "speed 1/1 "};
        String start = "sheet lay 0 at 0 ";
        for (int mask = 0; mask < 16; mask++) {
            StringBuilder some = new StringBuilder(start);
            for (int i = 0; i < 4; i++) {
                some.append((mask >>> i & 1) != 0 ? options[i] : "");
            }
            good(some + "stem 0; end");
            fault(some + "; end", 1, some.length());
        }
        for (int i = 0; i < 4; i++) {
            for (int j = 0; j <= i; j++) {
                fault(start + options[i] + options[j] + "stem 0; end", 1, start.length() + options[i].length());
            }
        }
        fault(start + "speed 1 stem 0; end", 1, 25);
        fault(start + "stem 0 gain 1; end", 1, 24);

        about("T: INT | 'mark' INT [('+' | '-') INT]");
        good("sheet lay 0 at mark 1 stem 0; lay 0 at mark 1 + 2 stem 0; lay 0 at mark 1 - 2 stem 0; end");
        fault("sheet lay 0 at 1 + 2 stem 0; end", 1, 17);
        fault("sheet lay 0 at mark 1 + 2 + 3 stem 0; end", 1, 26);
        fault("sheet lay 0 at mark 1 * 2 stem 0; end", 1, 22);
        fault("sheet lay 0 at mark mark 1 stem 0; end", 1, 20);
        fault("sheet lay 0 at mark 1 + mark 2 stem 0; end", 1, 24);

        about("'taps' INT 'of' INT {',' INT} ';'");
        for (int n = 0; n < 5; n++) {
            String taps = "sheet taps 0 of " + times(n, "1,");
            if (n < 4) {
                good(taps + "1; end");
            }
            fault(taps + "; end", 1, taps.length());
        }

        about("RULE: 'right' E ['if' COND] ';'. COND: ALL {'or' ALL}. ALL: LIT {'and' LIT}. LIT: 'not' LIT | E (..) E");
        good("rules right 1; right 1 if not not not 1 < 2; right 1 if 1 < 2 or not 1 < 2 and not not 1 < 2; end");
        fault("rules right 1 if; end", 1, 16);
        fault("rules right 1 if not; end", 1, 20);
        fault("rules right 1 if 1; end", 1, 18);
        fault("rules right 1 if (1 < 2); end", 1, 20);
        fault("rules right 1 if not (1) < 2 not; end", 1, 29);
        fault("rules right 1 if 1 < 2 or; end", 1, 25);
        fault("rules right 1 if 1 < 2 and and; end", 1, 27);
        fault("rules right 1 if 1 < 2 if 1 < 2; end", 1, 23);
        fault("rules right 1 or 2; end", 1, 14);
        fault("rules right not 1; end", 1, 12);
        fault("rules right 1 < 2; end", 1, 14);

        about("E: PART {('+' | '-') PART}. PART: UNIT {('*' | '/') UNIT}. UNIT: INT | VAR | '(' E ')'");
        good("rules right ((1)) * (2 + (3)) - seconds / owner + land * frames - heard; end");
        fault("rules right ; end", 1, 12);
        fault("rules right (); end", 1, 13);
        fault("rules right (1; end", 1, 14);
        fault("rules right 1); end", 1, 13);
        fault("rules right (1)); end", 1, 15);
        fault("rules right 1 + ; end", 1, 16);
        fault("rules right + 1; end", 1, 12);
        fault("rules right 1 2; end", 1, 14);
        fault("rules right (1)(2); end", 1, 15);
        fault("rules right (1 if 1 < 2); end", 1, 15);
        fault("rules right 1 if (1 < 2; end", 1, 20);
    }

    private static void room() {
        about("2 ROOM: a 501st TOKEN");
        // 'lay' with all that it may have: 20 TOKENS
        String lay = "lay 0at mark 0+0from 0for 0gain 0speed 1/1stem 0;";
        String text = "block a " + times(16, lay) + "end sheet " + times(8, lay);
        String full = text + times(5, "clip 0;");
        good(full + "end");
        fault(full + "end end", 1, full.length() + 4);
        fault(full + "end $", 1, full.length() + 4);
        fault(full, 1, full.length());
        // with the last CUE one TOKEN longer 'end' is the 501st
        String longer = text + times(4, "clip 0;") + "use a at 0;";
        fault(longer, 2, longer.length() - 1);
        String names = "rules right 1 if " + times(491, "not ") + "1<1;";
        good(names + "end");
        fault("rules right 1 if not " + names.substring(17) + "end", 2, names.length() + 4);
        fault("rules right 1 if not " + names.substring(17) + "x", 1, names.length() + 4);
        fault("rules right 1 if not " + names.substring(17) + "12345", 1, names.length() + 4);
        fault("rules right 1 if not not " + names.substring(17) + "end", 2, names.length() + 7);
        roomOfParts();
    }

    private static void roomOfParts() {
        about("2 ROOM: a 7th block (at its first TOKEN)");
        String six = "block a end block b end block c end block d end block e end block f end ";
        good(six + "sheet end");
        fault(six + "block g end sheet end", 2, six.length());
        fault(six + "block", 2, six.length());
        fault(six + "block a end sheet end", 2, six.length());
        fault(six + "blocks", 1, six.length());

        about("2 ROOM: a 17th CUE of a block or sheet (at its first TOKEN)");
        String[] cues = {"lay 0 at 0 stem 0;", "fade 0 from 0 to 0 gain 0, 0;", "dip 0 under 0 by 0 hold 0;", "taps 0 of 0;", "clip 0;",
            "use b at 0;"};
        String sixteen = times(15, "clip 0;") + "use b at 0;";
        for (String cue : cues) {
            good("block b end sheet " + times(15, "clip 0;") + cue + "end");
            fault("block b end sheet " + sixteen + cue + "end", 2, 18 + sixteen.length());
            fault("block b end block a " + sixteen + cue + "end sheet end", 2, 20 + sixteen.length());
        }
        good("block b end block a " + sixteen + "end block c " + sixteen + "end sheet " + times(16, "clip 0;") + "end");
        fault("block b end sheet " + sixteen + "clip", 2, 18 + sixteen.length());
        fault("block b end sheet " + sixteen + "right", 1, 18 + sixteen.length());

        about("2 ROOM: a 13th RULE (at its first TOKEN)");
        String twelve = times(6, "right 1; loud 1 in 1;");
        good("rules " + twelve + "end");
        fault("rules " + twelve + "right 1; end", 2, 6 + twelve.length());
        fault("rules " + twelve + "loud 1 in 1; end", 2, 6 + twelve.length());
        fault("rules " + twelve + "loud", 2, 6 + twelve.length());
        fault("rules " + twelve + "lay", 1, 6 + twelve.length());

        about("2 ROOM: a 7th ( within one another");
        good("rules right ((((((1)))))); end");
        good("rules right ((((((1)))))) + ((((((2)))))) * (3); end");
        good("rules right ((((((1) + (2)))))) if ((((((1)))))) < ((((((2)))))); end");
        fault("rules right (((((((1))))))); end", 2, 18);
        fault("rules right ((((((1) + (2)) + ((3)))))) + (((((((", 2, 48);
        fault("rules right ((((((1 + (2)))))))); end", 2, 22);
        fault("rules right 1 if (((((((", 2, 23);
        fault("rules right 1 if 1 < (((((((", 2, 27);
        fault("rules right 1 if ((((((1)))))) < (((((((", 2, 39);
        fault("rules right ((((((1((", 1, 19);

        about("2 ROOM: a 5th INT of taps (at it)");
        good("sheet taps 0 of 1, 2, 3, 4; taps 0 of 1, 2, 3, 4; end");
        fault("sheet taps 0 of 1, 2, 3, 4, 5; end", 2, 28);
        fault("sheet taps 0 of 1, 2, 3, 4, 401; end", 2, 28);
        fault("sheet taps 0 of 1, 2, 3, 4, x", 1, 28);
        fault("sheet taps 0 of 1, 2, 3, 4,", 1, 27);

        about("FAULTS, the first by its place, of one place the least: SYNTAX and ROOM");
        fault("sheet taps 0 of 1, 2, 3, 4, 5 $", 2, 28);
        fault("sheet $ taps 0 of 1, 2, 3, 4, 5;", 1, 6);
        fault(six + "block $", 2, six.length());
        fault("rules right $ (((((((", 1, 12);
    }

    private static void laterFaults() {
        about("If there is none, likewise: behind all SYNTAX and ROOM");
        String[] later = {"block a end block a end sheet ", "sheet use a at 0; ", "sheet lay 20 at 0 stem 0; "};
        int[] places = {18, 10, 10};
        for (int i = 0; i < 3; i++) {
            fault(later[i] + "end", 3 + i, places[i]);
            fault(later[i] + "end $", 1, later[i].length() + 4);
            fault(later[i] + "end end", 1, later[i].length() + 4);
            fault(later[i], 1, later[i].length());
            fault(later[i] + "taps 0 of 1, 2, 3, 4, 5; end", 2, later[i].length() + 22);
        }

        about("3 TWICE: a block's NAME told already");
        good("block a end block b end sheet end");
        fault("block a end block b end block a end sheet end", 3, 30);
        fault("block a end block a end block a end sheet end", 3, 18);
        fault("block a end block b end block c end block d end block e end block a end sheet end", 3, 66);

        about("4 NAME: use's: no block told wholly ahead");
        good("block a end block b use a at 0; end sheet use a at 0; use b at 0; end");
        fault("block a end sheet use b at 0; end", 4, 22);
        fault("block a use a at 0; end sheet end", 4, 12);
        fault("block a use b at 0; end block b end sheet end", 4, 12);
        fault("block a end sheet use aa at 0; end", 4, 22);

        about("the first by its place: TWICE, NAME, WRONG");
        String twice = "block a end block a end ";
        fault(twice + "sheet use b at 61; end", 3, 18);
        fault("block a use c at 0; end block a end sheet end", 4, 12);
        fault("block a lay 20 at 0 stem 0; end block a end sheet end", 5, 12);
        fault("block a end sheet use b at 61; end", 4, 22);
        fault("block a end sheet use a at 61; use b at 0; end", 5, 27);
        fault("sheet lay 20 at 61 stem 3; end", 5, 10);
        fault("sheet lay 0 at 61 stem 3; end", 5, 15);

        about("A text with a FAULT changes nothing");
        MixStage x = reel(2);
        tell(x, "rules loud 3 in 1; right 4; end");
        due("rules", tell(x, "rules loud 1 in 1; loud 0 in 0; end"), 5);
        due("count(4)", x.count(4), 2);
        due("sheet", tell(x, "sheet lay 20 at 0 stem 0; end"), 5);
        due("count(2)", x.count(2), 0);
        due("cues(0)", x.cues(0), -1);
        due("no SHEET is there", x.reel(3), true);
        x.edition();
        due("keep", x.keep(0, 1), 1);
        due("sheet", tell(x, "sheet end $"), 1);
        due("no SHEET was told for it", x.keep(0, 1), 2);
        due("sheet", tell(x, "sheet clip 7; end"), 0);
        due("its number", x.cue(0, 0, 2), 7);
        tone(x, 8, 100, 0);
        tell(x, "sheet lay 0 at 0 stem 0; end");
        // 400 is above 300, 200 is not
        due("THE RULES are those told ahead", x.tame(1), 1);
    }

    private static void wrongInts() {
        about("5 WRONG: an INT that is none such");
        for (int i = 0; i < PLACES.length; i += 3) {
            String text = PLACES[i];
            int low = Integer.parseInt(PLACES[i + 1]);
            int high = Integer.parseInt(PLACES[i + 2]);
            int place = text.indexOf('#');
            good(text.replace("#", "" + low));
            good(text.replace("#", "" + high));
            if (low > 0) {
                fault(text.replace("#", "" + (low - 1)), 5, place);
            }
            fault(text.replace("#", "" + (high + 1)), high == 9999 ? 1 : 5, place);
            fault(text.replace("#", "9999"), high == 9999 ? 0 : 5, high == 9999 ? -1 : place);
        }
    }

    private static void longSheets() {
        about("6 LONG: with all blocks put in there would be more than 40 CUES (at sheet)");
        String ten = "block a " + times(10, "clip 1;") + "end ";
        String ones = "block b clip 1; end ";
        good(ten + "sheet " + times(4, "use a at 0;") + "end");
        fault(ten + "sheet " + times(4, "use a at 0;") + "clip 1; end", 6, ten.length());
        fault(ten + "sheet clip 1; " + times(4, "use a at 0;") + "end", 6, ten.length());
        good(ten + ones + "sheet " + times(3, "use a at 0;") + times(10, "use b at 0;") + "end");
        fault(ten + ones + "sheet " + times(3, "use a at 0;") + times(11, "use b at 0;") + "end", 6, (ten + ones).length());
        String nested = ten + "block b use a at 0; use a at 0; end ";
        good(nested + "sheet use b at 0; use b at 0; end");
        fault(nested + "sheet use b at 0; use b at 0; clip 1; end", 6, nested.length());
        String unused = ten + "block b " + times(16, "use a at 0;") + "end ";
        good(unused + "sheet end");
        good(unused + "sheet use a at 0; end");
        fault(unused + "sheet use b at 0; end", 6, unused.length());
        String six = "block a clip 1; clip 1; clip 1; end block b end block c end block d end block e end block f end ";
        good(six + "sheet " + times(13, "use a at 0;") + "clip 1; end");
        fault(six + "sheet " + times(14, "use a at 0;") + "end", 6, six.length());
        String empty = "block a end block b " + times(16, "use a at 0;") + "end block c " + times(16, "use b at 0;") + "end ";
        good(empty + "sheet " + times(16, "use c at 0;") + "end");
        // 500 TOKENS, and no CUE
        String deep = "block a end ";
        for (char c = 'b'; c < 'g'; c++) {
            deep += "block " + c + " " + times(16, "use " + (char) (c - 1) + " at 0;") + "end ";
        }
        MixStage x = new MixStage();
        due("read", tell(x, deep + "sheet " + times(16, "use f at 0;") + "end"), 0);
        due("cues(0)", x.cues(0), 0);

        about("6 LONG: behind all");
        fault(ten + "sheet " + times(4, "use a at 0;") + "clip 1; lay 20 at 0 stem 0; end", 5, ten.length() + 6 + 44 + 12);
        fault(ten + "sheet " + times(5, "use a at 0;") + "use b at 0; end", 4, ten.length() + 6 + 55 + 4);
        fault(ten + "sheet " + times(5, "use a at 0;") + "end $", 1, ten.length() + 6 + 55 + 4);
        String most = "block a " + times(16, "clip 1;") + "end block b " + times(16, "use a at 0;") + "end block c "
                + times(16, "use b at 0;") + "end block d " + times(16, "use c at 0;") + "end block e " + times(16, "use d at 0;") + "end ";
        fault(most + "sheet " + times(16, "use e at 0;") + "end", 6, most.length());
    }

    private static void tellings() {
        about("else it is a SHEET (8 at most, numbered from 0 on, of the EDITION that is the last then), or THE RULES");
        MixStage x = new MixStage();
        for (int i = 0; i < 8; i++) {
            due("no such SHEET", x.cues(i), -1);
            due("read", tell(x, "sheet " + times(i, "clip 1;") + "end"), 0);
            due("cues(" + i + ")", x.cues(i), i);
        }
        feed(x, "sheet end");
        due("a ninth", x.read(), -2);
        due("the tape stays", x.count(5), 9);
        due("a ninth", x.read(), -2);
        due("cues(8)", x.cues(8), -1);
        due("count(2)", x.count(2), 8);
        x = reel(2);
        x.sound(0, 4, 0, 0);
        tell(x, "sheet lay 0 at 0 stem 0; end");
        x.edition();
        x.keep(0, 1);
        tell(x, "sheet lay 0 at 0 stem 0; end");
        due("of EDITION 0", x.fate(0, 0, 0), 0);
        due("of EDITION 1", x.fate(1, 0, 1), 0);
        due("not of EDITION 0", x.fate(1, 0, 0), -1);
        due("RULES anew", tell(x, "rules right 1; right 2; end"), 0);
        due("count(4)", x.count(4), 2);
        due("RULES anew", tell(x, "rules loud 1 in 1; end"), 0);
        due("count(4)", x.count(4), 1);
        due("no RULES", tell(x, "rules end"), 0);
        due("count(4)", x.count(4), 0);

        about("THE RULES told anew, again and again");
        x = reel(1);
        x.sound(3, 4, 7, 0);
        tell(x, "sheet end");
        for (int i = 0; i < 12; i++) {
            tell(x, "rules right 1; loud 1 in 1; end");
            due("owed", x.owed(0, 0, 0, 0), 1);
            due("tame", x.tame(0), 0);
            tell(x, "rules end");
            due("owed without RULES", x.owed(0, 0, 0, 0), 0);
            String sum = "0" + times(180, "+1");
            tell(x, "rules right " + sum + "+" + i + "; end");
            due("owed", x.owed(0, 0, 0, 0), 180 + i);
            due("tame without a loud RULE", x.tame(0), -1);
        }
    }

    private static void framesOfTimes() {
        about("A T's FRAME: the INT; of a MARK (a FRAME 0 .. 60, 0 at first, as it is when the SHEET is used) and the INT more or less");
        MixStage x = reel(60);
        x.mark(7, 60);
        tell(x, "sheet lay 0 at 0 stem 0; lay 0 at 60 stem 0; lay 0 at mark 0 stem 0; lay 0 at mark 0 - 60 stem 0;"
                + " lay 0 at mark 7 + 60 stem 0; lay 0 at mark 7 - 60 stem 0; fade 0 from mark 7 - 1 to mark 0 gain 0, 0; end");
        int[] first = {0, 60, 0, -60, 120, 0, 59};
        for (int k = 0; k < 7; k++) {
            due("FRAME of CUE " + k, x.cue(0, k, 1), first[k]);
        }
        x.mark(0, 60);
        x.mark(7, 0);
        int[] then = {0, 60, 60, 0, 60, -60, -1};
        for (int k = 0; k < 7; k++) {
            due("FRAME of CUE " + k + " then", x.cue(0, k, 1), then[k]);
        }
        x = reel(2);
        tone(x, 8, 1, 1);
        int mix = mix(x, "sheet lay 0 at mark 1 stem 0; end");
        heard(x, mix, 0, 1, 2, 3, 4, 5, 6, 7, 8);
        x.mark(1, 1);
        heard(x, mix, 0, 1);
        x.again();
        heard(x, mix, 0, 0, 0, 0, 0, 1, 2, 3, 4, 0);
        x.mark(1, 2);
        x.again();
        heard(x, mix, 0, 0, 0, 0, 0, 0, 0, 0, 0, 0);
        mix = mix(x, "sheet lay 0 at mark 1 - 3 stem 0; lay 0 at mark 1 - 4 stem 1; end");
        heard(x, mix, 0, 5, 6, 7, 8, 0);
    }

    private static void blockFrames() {
        about("In a block that is used at a T all its FRAMES (of T's; not those of marks) are so much later");
        MixStage x = reel(60);
        x.mark(1, 10);
        tell(x, "block a lay 0 at 5 from 1 for 2 stem 0; lay 0 at mark 1 stem 0; lay 0 at mark 1 - 3 stem 0;"
                + " fade 0 from 4 to 6 gain 0, 0; fade 1 from mark 1 to 7 gain 0, 0; fade 1 from 8 to mark 1 gain 0, 0; end "
                + "block b use a at 20; use a at mark 1 + 1; end sheet use a at 0; use a at 60; use a at mark 2 - 2; use b at 3; end");
        int[] plain = {5, 10, 7, 4, 10, 8};
        int[] later = {0, 60, -2, 23, 11};
        due("cues(0)", x.cues(0), 30);
        for (int k = 0; k < 30; k++) {
            int hangs = k % 6;
            boolean ofMark = hangs == 1 || hangs == 2 || hangs == 4;
            due("FRAME of CUE " + k, x.cue(0, k, 1), plain[hangs] + (ofMark ? 0 : later[k / 6]));
        }
        // ends of fades: seen where they quarrel
        x = reel(60);
        x.mark(1, 10);
        String block = "block a fade 0 from 0 to 5 gain 0, 0; fade 1 from 0 to mark 1 gain 0, 0; end sheet use a at 4; ";
        tell(x, block + "fade 0 from 8 to 9 gain 0, 0; fade 1 from 9 to 9 gain 0, 0; end");
        due("8 is ahead of 5 + 4", x.quarrel(0, 0), 2);
        due("9 is ahead of the MARK's 10", x.quarrel(0, 1), 64 + 3);
        tell(x, block + "fade 0 from 9 to 9 gain 0, 0; fade 1 from 10 to 10 gain 0, 0; end");
        due("9 is not ahead of 5 + 4, nor 10 of 10", x.quarrel(1, 0), -1);

        about("CUES stand in their order, those of a block where it is used");
        x = new MixStage();
        tell(x, "block a clip 1; clip 2; end block b clip 3; use a at 0; clip 4; end sheet clip 5; use b at 0; clip 6; use a at 0; end");
        int[] order = {5, 3, 1, 2, 4, 6, 1, 2};
        due("cues(0)", x.cues(0), 8);
        for (int k = 0; k < 8; k++) {
            due("CUE " + k, x.cue(0, k, 2), order[k]);
        }
        due("behind the last", x.cue(0, 8, 2), -1);
    }

    /** What is OWED, in a land, by RULES for a MUSIC of OWNER 7 that is not HEARD. */
    private static void owed(String rules, int land, int want) {
        MixStage x = reel(1);
        x.sound(3, 4, 7, 0);
        tell(x, "sheet end");
        due("read() of " + rules, tell(x, "rules " + rules + " end"), 0);
        due("owed with " + rules, x.owed(0, 0, 0, land), want);
    }

    private static void intsThatWrap() {
        about("Ints of 32 bits that wrap");
        // 8192 * 8192 * 32 is 2 to the 31: below 0, as an int
        owed("right 8192*8192*31;", 0, 999999);
        owed("right 8192*8192*32;", 0, 0);
        owed("right 8192*8192*32-1;", 0, 999999);
        owed("right 8192*8192*64;", 0, 0);
        owed("right 8192*8192*64+5;", 0, 5);
        owed("right 8192*8192*31+8192*8191+8191;", 0, 999999);
        owed("right 8192*8192*31+8192*8191+8192;", 0, 0);
        owed("right 0-8192*8192*32;", 0, 0);
        owed("right 0-8192*8192*32-1;", 0, 999999);
        owed("right 8192*8192*32/(0-1);", 0, 0);
        owed("right 8192*8192*32/(0-1)-1;", 0, 999999);
        owed("right 1 if 8192*8192*32 < 0; right 2;", 0, 1);
        owed("right 1 if 8192*8192*32 == 0-8192*8192*32; right 2;", 0, 1);
        owed("right 1 if 8192*8192*32-1 <= 0; right 2;", 0, 2);

        about("/ is rounded towards 0");
        owed("right 7/2;", 0, 3);
        owed("right (0-7)/2+9;", 0, 6);
        owed("right 7/(0-2)+9;", 0, 6);
        owed("right (0-7)/(0-2);", 0, 3);
        owed("right (0-1)/2+9;", 0, 9);
        owed("right 1/2*2;", 0, 0);
        owed("right 100/7/3;", 0, 4);
        owed("right 6-2-1;", 0, 3);
        owed("right 2+3*4;", 0, 14);
        owed("right (2+3)*4;", 0, 20);
        owed("right 20-3*4/2+1;", 0, 15);
    }

    private static void divisions() {
        about("a RULE with a division by 0 anywhere in its E or COND does not count");
        owed("right 1/0; right 9;", 0, 9);
        owed("right 1/0;", 0, 0);
        owed("right 0/0; right 9;", 0, 9);
        owed("right 0*(1/0); right 9;", 0, 9);
        owed("right 1/(7-owner); right 9;", 0, 9);
        owed("right 5/land; right 9;", 0, 9);
        owed("right 5/land; right 9;", 1, 5);
        owed("right 5 if 1/0 == 0; right 9;", 0, 9);
        owed("right 5 if 1/0 != 1; right 9;", 0, 9);
        owed("right 5 if not 1/0 == 1; right 9;", 0, 9);
        owed("right 5 if 1 == 1 or 1/0 == 1; right 9;", 0, 9);
        owed("right 5 if 1/0 == 1 or 1 == 1; right 9;", 0, 9);
        owed("right 5 if 1 == 1 or 1 == 1 and 1 < 1/0; right 9;", 0, 9);
        owed("right 5 if 1 == 2 and 1/0 == 1 or 1 == 1; right 9;", 0, 9);
        owed("right 1/0 if 1 == 1; right 9;", 0, 9);
        owed("right 1/0 if 1 == 2; right 8 if 1 == 1; right 9;", 0, 8);
        owed("right 1/0; right 8 if 1/0 == 1; right 7/7;", 0, 1);

        about("COND: 'not' ahead of 'and', 'and' ahead of 'or'");
        for (int bits = 0; bits < 8; bits++) {
            boolean a = (bits & 1) != 0;
            boolean b = (bits & 2) != 0;
            boolean c = (bits & 4) != 0;
            String la = (a ? "1" : "0") + " == 1";
            String lb = (b ? "0" : "1") + " < 1";
            String lc = (c ? "1" : "2") + " <= 1";
            owed("right 1 if " + la + " or " + lb + " and " + lc + "; right 2;", 0, a || b && c ? 1 : 2);
            owed("right 1 if " + la + " and " + lb + " or " + lc + "; right 2;", 0, a && b || c ? 1 : 2);
            owed("right 1 if not " + la + " and " + lb + "; right 2;", 0, !a && b ? 1 : 2);
            owed("right 1 if not " + la + " or not not " + lb + " and not " + lc + "; right 2;", 0, !a || b && !c ? 1 : 2);
            owed("right 1 if " + la + " and " + lb + " and " + lc + "; right 2;", 0, a && b && c ? 1 : 2);
            owed("right 1 if " + la + " or " + lb + " or " + lc + "; right 2;", 0, a || b || c ? 1 : 2);
            owed("right 1 if " + la + " and " + lb + " or " + lb + " and " + lc + " or " + la + " and " + lc + "; right 2;", 0,
                    a && b || b && c || a && c ? 1 : 2);
        }
        owed("right 1 if 1 != 2 and 1 == 1; right 2;", 0, 1);
        owed("right 1 if 1 != 2 and 1 != 3 and 1 < 2 and 1 <= 2; right 2;", 0, 1);
        for (int left = 0; left < 3; left++) {
            owed("right 1 if " + left + " == 1; right 2;", 0, left == 1 ? 1 : 2);
            owed("right 1 if " + left + " != 1; right 2;", 0, left != 1 ? 1 : 2);
            owed("right 1 if " + left + " < 1; right 2;", 0, left < 1 ? 1 : 2);
            owed("right 1 if " + left + " <= 1; right 2;", 0, left <= 1 ? 1 : 2);
        }
    }
}
