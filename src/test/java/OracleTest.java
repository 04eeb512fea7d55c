import java.util.ArrayList;
import java.util.Arrays;
import java.util.HashSet;
import java.util.List;
import java.util.Random;
import java.util.Set;
import java.util.TreeSet;

/**
 * Runs of calls drawn from numbered seeds, each answer compared with that of a slow second writing of the document.
 * With two arguments (first seed, runs) it goes on longer.
 */
public final class OracleTest {
    private static int wrong = 0;
    private static long calls = 0;

    public static void main(String[] args) {
        long first = args.length > 0 ? Long.parseLong(args[0]) : 1;
        int runs = args.length > 1 ? Integer.parseInt(args[1]) : 400;
        int[] reads = new int[8];
        for (int i = 0; i < runs && wrong < 5; i++) {
            new Run(first + i, reads).go();
        }
        System.out.println("oracle: " + calls + " calls, reads by answer " + Arrays.toString(reads) + ", " + wrong + " wrong");
        System.exit(wrong == 0 ? 0 : 1);
    }

    private static final class Run {
        private final long seed;
        private final Random r;
        private final int[] reads;
        private final MixStage x = new MixStage();
        private final Naive y = new Naive();
        private final StringBuilder log = new StringBuilder();
        private int made = 0;
        private boolean ok = true;

        Run(long seed, int[] reads) {
            this.seed = seed;
            this.r = new Random(seed);
            this.reads = reads;
        }

        private void due(String call, long got, long want) {
            calls++;
            made++;
            log.append(call).append(" -> ").append(want).append('\n');
            if (got != want && ok) {
                ok = false;
                wrong++;
                System.out.println("seed " + seed + ":\n" + log + "answered " + got);
            }
        }

        private static long bit(boolean b) {
            return b ? 1 : 0;
        }

        private int num(int low, int high) {
            if (r.nextInt(40) == 0) {
                int[] odd = {-1, -2, Integer.MIN_VALUE, Integer.MAX_VALUE, high + 1, low - 1, 240, 241, 60, 61, 9999, 10000};
                return odd[r.nextInt(odd.length)];
            }
            return low + r.nextInt(high - low + 1);
        }

        private int soundNo() {
            return num(0, Math.max(0, y.sounds.size() - 1));
        }

        private int kindNo(int kind) {
            List<Integer> all = new ArrayList<>();
            for (int i = 0; i < y.sounds.size(); i++) {
                if (y.sounds.get(i).kind == kind) {
                    all.add(i);
                }
            }
            return all.isEmpty() || r.nextInt(15) == 0 ? soundNo() : all.get(r.nextInt(all.size()));
        }

        private int sheetNo() {
            return num(0, Math.max(0, y.sheets.size() - 1));
        }

        private int editionNo() {
            return num(0, y.editions.size() - 1);
        }

        void go() {
            boolean small = r.nextInt(4) == 0;
            if (r.nextInt(3) > 0) {
                int n = small ? 1 + r.nextInt(4) : num(1, 60);
                due("reel(" + n + ")", bit(x.reel(n)), bit(y.reel(n)));
            }
            int start = 3 + r.nextInt(12);
            for (int i = 0; i < start; i++) {
                tellSound();
            }
            for (int i = 0; i < 5; i++) {
                tellText();
                if (r.nextInt(3) == 0) {
                    newEdition();
                }
            }
            while (made < 480 && ok) {
                step();
            }
            if (ok) {
                look(30);
            }
        }

        private void newEdition() {
            int size = y.editions.get(y.editions.size() - 1).size();
            due("edition()", x.edition(), y.edition());
            int n = r.nextInt(5);
            int last = 0;
            for (int i = 0; i < n && size > 0; i++) {
                int a = r.nextInt(2) == 0 ? Math.min(last, size - 1) : r.nextInt(size);
                int b = a + 1 + r.nextInt(size - a);
                last = b;
                if (r.nextInt(5) == 0) {
                    due("blank(1)", x.blank(1), y.blank(1));
                }
                due("keep(" + a + ", " + b + ")", x.keep(a, b), y.keep(a, b));
            }
        }

        private void step() {
            switch (r.nextInt(16)) {
                case 0:
                    if (r.nextInt(y.sheets.size() < 8 ? 5 : 25) == 0) {
                        tellText();
                    } else if (r.nextInt(6) == 0) {
                        newEdition();
                    }
                    break;
                case 1:
                    tellPicture();
                    break;
                case 2:
                case 3:
                    tellSound();
                    break;
                case 4:
                case 5:
                    tellSamples();
                    break;
                case 6:
                    int sound = kindNo(6);
                    int sheet = sheetNo();
                    int edition = r.nextInt(3) > 0 ? y.editions.size() - 1 : editionNo();
                    due("make(" + sound + ", " + sheet + ", " + edition + ")", x.make(sound, sheet, edition),
                            y.make(sound, sheet, edition));
                    break;
                case 7:
                    due("again()", x.again(), y.again());
                    break;
                case 8:
                    int mark = num(0, 7);
                    int frame = r.nextInt(2) == 0 ? num(0, 6) : num(0, 60);
                    due("mark(" + mark + ", " + frame + ")", bit(x.mark(mark, frame)), bit(y.mark(mark, frame)));
                    break;
                case 9:
                    int g = num(0, 7);
                    int v = num(0, 999);
                    due("hisses(" + g + ", " + v + ")", bit(x.hisses(g, v)), bit(y.hisses(g, v)));
                    break;
                default:
                    look(1 + r.nextInt(6));
                    break;
            }
        }

        private void tellSound() {
            int pick = r.nextInt(10);
            if (pick < 5) {
                int kind = r.nextInt(30) == 0 ? num(-1, 4) : r.nextInt(4);
                int n = r.nextInt(9) == 0 ? -1 : r.nextInt(2) == 0 ? num(1, 16) : num(0, 240);
                int b = kind == 1 && n > 0 ? 1 + r.nextInt(Math.min(n, 300) + (r.nextInt(9) == 0 ? 2 : 0)) : num(0, 240);
                int a = kind == 1 ? r.nextInt(Math.max(1, Math.min(Math.max(0, b) + 1, 240))) : num(0, 7);
                due("sound(" + kind + ", " + n + ", " + a + ", " + b + ")", x.sound(kind, n, a, b), y.sound(kind, n, a, b));
                if (r.nextInt(5) > 0) {
                    tellSamples();
                }
            } else if (pick < 7) {
                int s = soundNo();
                int a = r.nextInt(3) == 0 ? num(0, 100) : num(0, 4);
                int b = a + num(0, 30);
                due("trim(" + s + ", " + a + ", " + b + ")", x.trim(s, a, b), y.trim(s, a, b));
            } else if (pick < 8) {
                int s = kindNo(2);
                due("mute(" + s + ")", x.mute(s), y.mute(s));
            } else if (pick < 9) {
                due("mixed()", x.mixed(), y.mixed());
            } else {
                int s = kindNo(2);
                int f = r.nextInt(3) == 0 ? num(0, 59) : num(0, 20);
                due("mouth(" + s + ", " + f + ")", x.mouth(s, f), y.mouth(s, f));
            }
        }

        private void tellSamples() {
            int s = r.nextInt(2) == 0 ? y.sounds.size() - 1 : soundNo();
            if (r.nextInt(4) == 0) {
                int i = num(0, 12);
                int v = r.nextInt(4) == 0 ? num(-10000, 10000) : num(-300, 300);
                due("sample(" + s + ", " + i + ", " + v + ")", bit(x.sample(s, i, v)), bit(y.sample(s, i, v)));
                return;
            }
            int n = s >= 0 && s < y.sounds.size() ? y.sounds.get(s).s.length : 5;
            int a = r.nextInt(3) == 0 ? num(0, 9) : 0;
            int b = r.nextInt(4) == 0 ? num(0, 240) : n;
            int v = r.nextInt(3) == 0 ? num(-9999, 9999) : num(-400, 400);
            int step = r.nextInt(20) == 0 ? num(-99999999, 999999999) : num(-20, 20);
            due("wave(" + s + ", " + a + ", " + b + ", " + v + ", " + step + ")", bit(x.wave(s, a, b, v, step)),
                    bit(y.wave(s, a, b, v, step)));
        }

        private void tellPicture() {
            int pick = r.nextInt(8);
            int size = y.editions.get(Math.max(0, y.editions.size() - 2)).size();
            if (pick == 0) {
                due("edition()", x.edition(), y.edition());
            } else if (pick < 6) {
                int a = r.nextInt(Math.max(1, size));
                int b = r.nextInt(10) == 0 ? num(0, 61) : a + 1 + r.nextInt(Math.max(1, size - a));
                due("keep(" + a + ", " + b + ")", x.keep(a, b), y.keep(a, b));
            } else if (pick == 6) {
                int n = r.nextInt(3) > 0 ? num(1, 3) : num(0, 61);
                due("blank(" + n + ")", x.blank(n), y.blank(n));
            } else {
                int n = num(1, 60);
                due("reel(" + n + ")", bit(x.reel(n)), bit(y.reel(n)));
            }
        }

        private void tellText() {
            String text = new Writer(r, y.sounds.size(), y.editions.get(y.editions.size() - 1).size()).text();
            if (text.length() + y.tape.length() > 2000 - 20) {
                text = text.substring(0, Math.max(0, Math.min(text.length(), 1980 - y.tape.length())));
            }
            for (int i = 0; i < text.length(); i += 20) {
                int[] w = new int[5];
                for (int k = 0; k < 20; k++) {
                    int c = i + k < text.length() ? text.charAt(i + k) & 255 : 32;
                    w[k / 4] = w[k / 4] << 8 | c;
                }
                made -= 1;
                due("feed of " + quoted(text, i), x.feed(w[0], w[1], w[2], w[3], w[4]), y.feed(w[0], w[1], w[2], w[3], w[4]));
            }
            made += 5;
            int rest = (20 - text.length() % 20) % 20;
            if (r.nextInt(3) > 0) {
                due("back(" + rest + ")", x.back(rest), y.back(rest));
            } else if (r.nextInt(8) == 0) {
                int n = num(-1, 30);
                due("back(" + n + ")", x.back(n), y.back(n));
            }
            int answer = y.read();
            reads[answer < 0 ? 7 : answer]++;
            due("read()", x.read(), answer);
            due("place()", x.place(), y.place);
            if (answer == 0) {
                due("cues", x.cues(y.sheets.size() - 1), y.cues(y.sheets.size() - 1));
            }
        }

        private static String quoted(String text, int i) {
            StringBuilder b = new StringBuilder("\"");
            for (char c : text.substring(i, Math.min(text.length(), i + 20)).toCharArray()) {
                b.append(c < 32 || c > 126 ? "\\" + (int) c : "" + c);
            }
            return b.append('"').toString();
        }

        private void look(int n) {
            for (int i = 0; i < n; i++) {
                lookOnce();
            }
        }

        private void lookOnce() {
            int s = soundNo();
            int sh = sheetNo();
            int own = sh >= 0 && sh < y.sheets.size() ? y.sheets.get(sh).edition : 0;
            int e = r.nextInt(4) == 0 ? editionNo() : own + r.nextInt(y.editions.size() - own);
            int k = num(0, Math.max(0, y.cues(sh) - 1));
            switch (r.nextInt(18)) {
                case 0:
                    due("frames(" + e + ")", x.frames(e), y.frames(e));
                    break;
                case 1:
                    int f = num(0, 59);
                    int d = r.nextInt(5) == 0 ? editionNo() : r.nextInt(Math.max(1, Math.min(e + 1, 6)));
                    due("old(" + e + ", " + f + ", " + d + ")", x.old(e, f, d), y.old(e, f, d));
                    break;
                case 2:
                    due("length(" + s + ")", x.length(s), y.length(s));
                    break;
                case 3:
                    int m = kindNo(6);
                    for (int i = 0; i < 240; i++) {
                        if (x.heard(m, i) != y.heard(m, i)) {
                            due("heard(" + m + ", " + i + ")", x.heard(m, i), y.heard(m, i));
                        }
                    }
                    break;
                case 4:
                    for (int i = -1; i < 241; i++) {
                        if (x.heard(s, i) != y.heard(s, i)) {
                            due("heard(" + s + ", " + i + ")", x.heard(s, i), y.heard(s, i));
                        }
                    }
                    break;
                case 5:
                    int w = r.nextInt(7);
                    int one = r.nextInt(2) == 0 ? kindNo(6) : s;
                    due("about(" + one + ", " + w + ")", x.about(one, w), y.about(one, w));
                    break;
                case 6:
                    for (int i = 0; i < y.sounds.size(); i++) {
                        if (x.about(i, 4) != y.about(i, 4)) {
                            due("about(" + i + ", 4)", x.about(i, 4), y.about(i, 4));
                        }
                    }
                    break;
                case 7:
                    due("leans(" + s + ")", x.leans(s), y.leans(s));
                    break;
                case 8:
                    due("cues(" + sh + ")", x.cues(sh), y.cues(sh));
                    break;
                case 9:
                    int cw = num(0, 3);
                    due("cue(" + sh + ", " + k + ", " + cw + ")", x.cue(sh, k, cw), y.cue(sh, k, cw));
                    break;
                case 10:
                    due("fate(" + sh + ", " + k + ", " + e + ")", x.fate(sh, k, e), y.fate(sh, k, e));
                    break;
                case 11:
                    due("goes(" + sh + ", " + k + ", " + e + ")", x.goes(sh, k, e), y.goes(sh, k, e));
                    break;
                case 12:
                    int q = num(0, 4);
                    due("quarrel(" + sh + ", " + q + ")", x.quarrel(sh, q), y.quarrel(sh, q));
                    break;
                case 13:
                    int lw = r.nextInt(2) == 0 ? num(1, 4) : num(1, 60);
                    due("loud(" + s + ", " + lw + ")", x.loud(s, lw), y.loud(s, lw));
                    break;
                case 14:
                    due("tame(" + sh + ")", x.tame(sh), y.tame(sh));
                    break;
                case 15:
                    int lp = kindNo(1);
                    due("seam(" + lp + ")", x.seam(lp), y.seam(lp));
                    int a = kindNo(2);
                    int b = kindNo(2);
                    int slack = num(0, 9);
                    int what = num(0, 2);
                    due("fit(" + a + ", " + b + ", " + slack + ", " + what + ")", x.fit(a, b, slack, what), y.fit(a, b, slack, what));
                    break;
                case 16:
                    int mu = kindNo(3);
                    int land = num(0, 9);
                    due("sounding(" + sh + ", " + mu + ", " + e + ")", x.sounding(sh, mu, e), y.sounding(sh, mu, e));
                    due("owed(" + sh + ", " + mu + ", " + e + ", " + land + ")", x.owed(sh, mu, e, land), y.owed(sh, mu, e, land));
                    break;
                default:
                    int c = num(0, 5);
                    due("count(" + c + ")", x.count(c), y.count(c));
                    break;
            }
        }
    }

    /** Draws texts: mostly sound ones, some bent afterwards. */
    private static final class Writer {
        private final Random r;
        private final int sounds;
        private final int frames;
        private final List<String> blocks = new ArrayList<>();
        private final StringBuilder b = new StringBuilder();

        Writer(Random r, int sounds, int frames) {
            this.r = r;
            this.sounds = Math.max(1, sounds);
            this.frames = Math.max(1, frames);
        }

        String text() {
            boolean long_ = r.nextInt(12) == 0;
            if (r.nextInt(3) == 0) {
                rules(long_);
            } else {
                sheet(long_);
            }
            String text = b.toString();
            if (r.nextInt(5) == 0) {
                text = bent(text);
            }
            return text;
        }

        private void w(String s) {
            boolean glue = b.length() > 0 && Character.isLetterOrDigit(b.charAt(b.length() - 1))
                    && Character.isLetterOrDigit(s.charAt(0));
            boolean sign = b.length() > 0 && "=!<".indexOf(b.charAt(b.length() - 1)) >= 0 && s.charAt(0) == '=';
            if (glue || sign || r.nextInt(6) == 0) {
                b.append(r.nextInt(9) == 0 ? (char) (new int[] {9, 10, 13, 32})[r.nextInt(4)] : ' ');
            }
            b.append(s);
        }

        private void n(int low, int high) {
            int v = r.nextInt(250) == 0 ? new int[] {0, 3, 8, 10, 20, 61, 401, 9999}[r.nextInt(8)] : low + r.nextInt(high - low + 1);
            w(r.nextInt(30) == 0 ? String.format("%04d", v) : "" + v);
        }

        private void sheet(boolean many) {
            int n = r.nextInt(2) == 0 ? 0 : r.nextInt(many ? 8 : 4);
            for (int i = 0; i < n; i++) {
                w("block");
                String name = r.nextInt(25) == 0 && !blocks.isEmpty() ? blocks.get(0) : name();
                w(name);
                cues(many ? 18 : 3);
                w("end");
                blocks.add(name);
            }
            w("sheet");
            cues(many ? 18 : r.nextInt(3) > 0 ? 16 : 7);
            w("end");
        }

        private String name() {
            String all = "abcdefghijklmnopqrstuvwxyz";
            StringBuilder s = new StringBuilder();
            int n = 1 + r.nextInt(8);
            for (int i = 0; i < n; i++) {
                s.append(all.charAt(r.nextInt(26)));
            }
            return s.toString();
        }

        private void cues(int most) {
            int n = r.nextInt(most + 1);
            for (int i = 0; i < n; i++) {
                cue();
            }
        }

        private void frame() {
            n(0, r.nextInt(4) == 0 ? 60 : Math.min(60, frames));
        }

        private void time() {
            if (r.nextInt(3) == 0) {
                w("mark");
                n(0, 7);
                if (r.nextInt(2) == 0) {
                    w(r.nextBoolean() ? "+" : "-");
                    n(0, 4);
                }
            } else {
                frame();
            }
        }

        private void cue() {
            int pick = r.nextInt(blocks.isEmpty() ? 11 : 14);
            if (pick < 6) {
                lay();
            } else if (pick < 8) {
                w("fade");
                n(0, 2);
                w("from");
                time();
                w("to");
                time();
                w("gain");
                n(0, 400);
                w(",");
                n(0, 200);
            } else if (pick < 9) {
                w("dip");
                n(0, 2);
                w("under");
                n(0, 2);
                w("by");
                n(0, r.nextInt(3) == 0 ? 400 : 100);
                w("hold");
                n(0, 5);
            } else if (pick < 10) {
                w("taps");
                n(0, 2);
                w("of");
                n(0, 200);
                int more = r.nextInt(30) == 0 ? 5 : r.nextInt(4);
                for (int i = 0; i < more; i++) {
                    w(",");
                    n(0, 200);
                }
            } else if (pick < 11) {
                w("clip");
                n(0, r.nextBoolean() ? 9999 : 500);
            } else {
                w("use");
                w(r.nextInt(30) == 0 ? "nosuch" : blocks.get(r.nextInt(blocks.size())));
                w("at");
                time();
            }
            w(";");
        }

        private void lay() {
            w("lay");
            n(0, r.nextInt(90) == 0 ? 19 : Math.min(19, sounds - 1));
            w("at");
            time();
            if (r.nextInt(4) == 0) {
                w("from");
                n(0, 3);
            }
            if (r.nextInt(3) == 0) {
                w("for");
                frame();
            }
            if (r.nextInt(2) == 0) {
                w("gain");
                n(0, 400);
            }
            if (r.nextInt(3) == 0) {
                w("speed");
                n(1, 9);
                w("/");
                n(1, 9);
            }
            w("stem");
            n(0, 2);
        }

        private void rules(boolean many) {
            w("rules");
            int n = r.nextInt(many ? 15 : 4);
            for (int i = 0; i < n; i++) {
                if (r.nextInt(3) == 0) {
                    w("loud");
                    n(0, new int[] {20, 100, 400, 1000, 3000}[r.nextInt(5)]);
                    w("in");
                    n(1, r.nextBoolean() ? 3 : 60);
                } else {
                    w("right");
                    sum(0);
                    if (r.nextInt(3) > 0) {
                        w("if");
                        condition();
                    }
                }
                w(";");
            }
            w("end");
        }

        private void condition() {
            int n = 1 + r.nextInt(4);
            for (int i = 0; i < n; i++) {
                if (i > 0) {
                    w(r.nextBoolean() ? "or" : "and");
                }
                while (r.nextInt(3) == 0) {
                    w("not");
                }
                sum(0);
                w(new String[] {"==", "!=", "<", "<="}[r.nextInt(4)]);
                sum(0);
            }
        }

        private void sum(int depth) {
            int n = 1 + (r.nextInt(2) == 0 ? 0 : r.nextInt(4));
            for (int i = 0; i < n; i++) {
                if (i > 0) {
                    w(new String[] {"+", "-", "*", "/"}[r.nextInt(4)]);
                }
                int pick = r.nextInt(8);
                if (pick < 3) {
                    n(0, r.nextInt(5) == 0 ? 9999 : 9);
                } else if (pick < 6) {
                    w(new String[] {"seconds", "owner", "land", "frames", "heard"}[r.nextInt(5)]);
                } else if (depth < (r.nextInt(20) == 0 ? 8 : 5)) {
                    w("(");
                    sum(depth + 1);
                    w(")");
                } else {
                    w("7");
                }
            }
        }

        private String bent(String text) {
            StringBuilder s = new StringBuilder(text);
            int n = 1 + r.nextInt(2);
            for (int i = 0; i < n && s.length() > 0; i++) {
                int at = r.nextInt(s.length());
                switch (r.nextInt(7)) {
                    case 0:
                        s.deleteCharAt(at);
                        break;
                    case 1:
                        s.setLength(at);
                        break;
                    case 2:
                        s.setCharAt(at, (char) (r.nextInt(4) == 0 ? r.nextInt(256) : 32 + r.nextInt(95)));
                        break;
                    case 3:
                        s.insert(at, new String[] {" ; ", " end ", " (", ")", " 12345 ", " abcdefghi ", " = ", "!", " 7 ", " x ", " mark ",
                            " rules end", " use q at 0; ", "<", " not ", " if ", ",", " + "}[r.nextInt(18)]);
                        break;
                    case 4:
                        s.append(new String[] {" ", "  \n", " end", ";", " sheet end", "x"}[r.nextInt(6)]);
                        break;
                    case 5:
                        int to = Math.min(s.length(), at + 1 + r.nextInt(12));
                        s.delete(at, to);
                        break;
                    default:
                        int until = Math.min(s.length(), at + 1 + r.nextInt(60));
                        s.insert(at, s.substring(at, until));
                        break;
                }
            }
            return s.toString();
        }
    }

    /** The document once more, as plainly as can be, without a thought for speed. */
    private static final class Naive {
        private static final class Fault extends RuntimeException {
            private static final long serialVersionUID = 1L;
            final int number;
            final int place;

            Fault(int number, int place) {
                this.number = number;
                this.place = place;
            }
        }

        private static final class Token {
            String text;
            char type;
            int place;
        }

        private static final class Time {
            int mark = -1;
            int add;
        }

        private static final class Q {
            String kind;
            int place;
            int sound;
            int stem;
            Time t;
            Time to;
            int from = 0;
            int span = -1;
            int g = 100;
            int g2;
            int u = 1;
            int v = 1;
            int y;
            int by;
            int hold;
            List<Integer> w = new ArrayList<>();
            int number;
            String name;
        }

        private static final class Sht {
            int edition;
            List<Q> cues = new ArrayList<>();
        }

        private static final class Snd {
            int kind;
            int a;
            int b;
            int src = -1;
            int[] s = new int[0];
            List<Integer> mouths = new ArrayList<>();
            int stamp;
            int gen;
            int sheet = -1;
            int edition = -1;
        }

        private interface E {
            int value(int[] vars) throws ArithmeticException;
        }

        private static final class Rule {
            E e;
            E cond;
            int m;
            int w;
        }

        final StringBuilder tape = new StringBuilder();
        int place = -1;
        final List<List<Integer>> editions = new ArrayList<>();
        final List<Integer> parts = new ArrayList<>();
        final List<Snd> sounds = new ArrayList<>();
        final List<Sht> sheets = new ArrayList<>();
        List<Rule> rules = new ArrayList<>();
        int stamp = 0;
        final int[] marks = new int[8];
        final int[] markStamps = new int[8];
        final int[] hiss = new int[8];

        Naive() {
            editions.add(new ArrayList<>());
            parts.add(0);
            reel(24);
        }

        boolean reel(int n) {
            if (n < 1 || n > 60 || !sheets.isEmpty() || editions.size() > 1) {
                return false;
            }
            editions.get(0).clear();
            for (int i = 0; i < n; i++) {
                editions.get(0).add(i);
            }
            return true;
        }

        int feed(int... w) {
            if (tape.length() + 20 > 2000) {
                return -1;
            }
            for (int v : w) {
                tape.append((char) (v >>> 24)).append((char) (v >> 16 & 255)).append((char) (v >> 8 & 255)).append((char) (v & 255));
            }
            return tape.length();
        }

        int back(int n) {
            if (n < 0 || n > tape.length()) {
                return -1;
            }
            tape.setLength(tape.length() - n);
            return tape.length();
        }

        int edition() {
            if (editions.size() == 6 || editions.get(editions.size() - 1).isEmpty()) {
                return -1;
            }
            editions.add(new ArrayList<>());
            parts.add(0);
            return editions.size() - 1;
        }

        private int part(List<Integer> more) {
            int e = editions.size() - 1;
            for (Sht s : sheets) {
                if (s.edition == e) {
                    return -1;
                }
            }
            if (e == 0 || parts.get(e) == 10 || editions.get(e).size() + more.size() > 60) {
                return -1;
            }
            editions.get(e).addAll(more);
            parts.set(e, parts.get(e) + 1);
            return editions.get(e).size();
        }

        int keep(int a, int b) {
            int e = editions.size() - 1;
            if (e == 0 || a < 0 || a > b - 1L || b > editions.get(e - 1).size()) {
                return -1;
            }
            List<Integer> more = new ArrayList<>();
            for (int i = a; i < b; i++) {
                more.add(i);
            }
            return part(more);
        }

        int blank(int n) {
            if (n < 1 || n > 60) {
                return -1;
            }
            List<Integer> more = new ArrayList<>();
            for (int i = 0; i < n; i++) {
                more.add(-1);
            }
            return part(more);
        }

        private boolean ed(int e) {
            return e >= 0 && e < editions.size();
        }

        int frames(int e) {
            return ed(e) ? editions.get(e).size() : -1;
        }

        int old(int e, int f, int d) {
            if (!ed(e) || !ed(d) || d > e || f < 0 || f >= frames(e)) {
                return -2;
            }
            if (e == d) {
                return f;
            }
            int g = editions.get(e).get(f);
            return g < 0 ? -1 : old(e - 1, g, d);
        }

        private int add(Snd s) {
            s.stamp = ++stamp;
            sounds.add(s);
            return sounds.size() - 1;
        }

        private Snd snd(int n) {
            return n < 0 || n >= sounds.size() ? null : sounds.get(n);
        }

        int sound(int kind, int n, int a, int b) {
            if (sounds.size() == 20 || kind < 0 || kind > 3 || !(n == -1 || n >= 1 && n <= 240)) {
                return -1;
            }
            if (kind == 1 && !(a >= 0 && a <= b - 1L && b <= (n == -1 ? 240 : n))) {
                return -1;
            }
            if (kind == 3 && (a < 0 || a > 7)) {
                return -1;
            }
            Snd s = new Snd();
            s.kind = kind;
            s.a = a;
            s.b = b;
            s.s = new int[Math.max(0, n)];
            return add(s);
        }

        int trim(int n, int a, int b) {
            if (sounds.size() == 20 || snd(n) == null || !(a >= 0 && a <= b - 1L && b <= 240)) {
                return -1;
            }
            Snd s = new Snd();
            s.kind = 4;
            s.a = a;
            s.b = b;
            s.src = n;
            return add(s);
        }

        int mute(int n) {
            if (sounds.size() == 20 || snd(n) == null || snd(n).kind != 2) {
                return -1;
            }
            Snd s = new Snd();
            s.kind = 5;
            s.src = n;
            return add(s);
        }

        int mixed() {
            if (sounds.size() == 20) {
                return -1;
            }
            Snd s = new Snd();
            s.kind = 6;
            return add(s);
        }

        boolean wave(int n, int a, int b, int v, int step) {
            Snd s = snd(n);
            if (s == null || s.kind > 3) {
                return false;
            }
            for (long i = a; i < b; i++) {
                long value = v + step * (i - a);
                if (i < 0 || i >= s.s.length || value < -9999 || value > 9999) {
                    return false;
                }
            }
            for (int i = a; i < b; i++) {
                s.s[i] = v + step * (i - a);
            }
            s.stamp = ++stamp;
            return true;
        }

        boolean sample(int n, int i, int v) {
            Snd s = snd(n);
            if (s == null || s.kind > 3 || i < 0 || i >= s.s.length || v < -9999 || v > 9999) {
                return false;
            }
            s.s[i] = v;
            s.stamp = ++stamp;
            return true;
        }

        int mouth(int n, int f) {
            Snd s = snd(n);
            if (s == null || s.kind != 2 || s.mouths.size() == 8 || f < 0 || f > 59) {
                return -1;
            }
            s.mouths.add(f);
            return s.mouths.size();
        }

        boolean mark(int m, int f) {
            if (m < 0 || m > 7 || f < 0 || f > 60) {
                return false;
            }
            marks[m] = f;
            markStamps[m] = ++stamp;
            return true;
        }

        boolean hisses(int g, int v) {
            if (g < 0 || g > 7 || v < 0 || v > 999) {
                return false;
            }
            hiss[g] = v;
            return true;
        }

        private boolean has(int n, int i) {
            Snd s = snd(n);
            if (s == null || i < 0) {
                return false;
            }
            if (s.kind == 4) {
                return i < s.b - s.a && has(s.src, s.a + i);
            }
            return s.kind == 5 ? has(s.src, i) : i < s.s.length;
        }

        int heard(int n, int i) {
            if (!has(n, i)) {
                return 0;
            }
            Snd s = snd(n);
            return s.kind == 4 ? heard(s.src, s.a + i) : s.kind == 5 ? 0 : s.s[i];
        }

        int length(int n) {
            if (snd(n) == null) {
                return -1;
            }
            int i = 0;
            while (has(n, i)) {
                i++;
            }
            return i;
        }

        private Set<Integer> laid(Sht sheet) {
            Set<Integer> all = new TreeSet<>();
            for (Q q : sheet.cues) {
                if (q.kind.equals("lay")) {
                    all.add(q.sound);
                }
            }
            return all;
        }

        private Set<Integer> on(int n) {
            Snd s = snd(n);
            Set<Integer> all = new TreeSet<>();
            Set<Integer> once = new TreeSet<>();
            if (s == null) {
                return all;
            }
            if (s.src >= 0) {
                once.add(s.src);
            }
            if (s.sheet >= 0) {
                once.addAll(laid(sheets.get(s.sheet)));
            }
            for (int i : once) {
                all.add(i);
                all.addAll(on(i));
            }
            return all;
        }

        int leans(int n) {
            if (snd(n) == null) {
                return -1;
            }
            int bits = 0;
            for (int i : on(n)) {
                bits |= 1 << i;
            }
            return bits;
        }

        private int stampOf(int n) {
            Snd s = snd(n);
            return s.src < 0 ? s.stamp : Math.max(s.stamp, stampOf(s.src));
        }

        private boolean stale(int n) {
            Snd s = snd(n);
            if (s.sheet < 0) {
                return false;
            }
            for (int i : on(n)) {
                if (stampOf(i) > s.stamp || stale(i)) {
                    return true;
                }
            }
            for (Q q : sheets.get(s.sheet).cues) {
                for (Time t : new Time[] {q.t, q.to}) {
                    if (t != null && t.mark >= 0 && markStamps[t.mark] > s.stamp) {
                        return true;
                    }
                }
            }
            return false;
        }

        private int hissOf(int n) {
            Snd s = snd(n);
            int most = 0;
            if (s.sheet >= 0) {
                for (int i : laid(sheets.get(s.sheet))) {
                    most = Math.max(most, hissOf(i));
                }
            }
            return hiss[Math.min(7, s.gen)] + most;
        }

        int about(int n, int what) {
            Snd s = snd(n);
            if (s == null || what < 0 || what > 6) {
                return -1;
            }
            return new int[] {s.kind, s.gen, hissOf(n), s.stamp, stale(n) ? 1 : 0, s.sheet, s.edition}[what];
        }

        private int now(Time t) {
            return t.mark < 0 ? t.add : marks[t.mark] + t.add;
        }

        /** What a lay takes in SAMPLE t; null where it is not HEARD. */
        private Integer takes(Q q, int t) {
            int f = now(q.t);
            if (t < 4 * f || q.span >= 0 && t >= 4 * f + 4 * q.span) {
                return null;
            }
            int i = 4 * q.from + (t - 4 * f) * q.u / q.v;
            Snd s = snd(q.sound);
            if (s != null && s.kind == 1 && i >= s.b) {
                i = s.a + (i - s.a) % (s.b - s.a);
            }
            return has(q.sound, i) ? heard(q.sound, i) : null;
        }

        private boolean layHeard(Sht sheet, int stem, int t) {
            for (Q q : sheet.cues) {
                if (q.kind.equals("lay") && q.stem == stem && t >= 0 && takes(q, t) != null) {
                    return true;
                }
            }
            return false;
        }

        private int fader(Sht sheet, int stem, int t) {
            int gain = 100;
            for (Q q : sheet.cues) {
                if (q.kind.equals("fade") && q.stem == stem && 4 * now(q.t) <= t) {
                    int from = 4 * now(q.t);
                    int to = 4 * now(q.to);
                    gain = to <= from || t >= to ? q.g2 : q.g + (q.g2 - q.g) * (t - from) / (to - from);
                }
            }
            return gain;
        }

        private int[] mix(Sht sheet, Set<Integer> halved) {
            int n = 4 * frames(sheet.edition);
            long[][] stem = new long[3][n];
            for (int x = 0; x < 3; x++) {
                for (int t = 0; t < n; t++) {
                    int lay = 0;
                    for (Q q : sheet.cues) {
                        if (!q.kind.equals("lay")) {
                            continue;
                        }
                        Integer taken = takes(q, t);
                        if (q.stem == x && taken != null) {
                            stem[x][t] += taken * (halved.contains(lay) ? q.g / 2 : q.g) / 100;
                        }
                        lay++;
                    }
                    stem[x][t] = stem[x][t] * fader(sheet, x, t) / 100;
                }
            }
            for (Q q : sheet.cues) {
                for (int t = 0; q.kind.equals("dip") && t < n; t++) {
                    boolean any = false;
                    for (int past = t - 4 * q.hold; past <= t && !any; past++) {
                        any = layHeard(sheet, q.y, past);
                    }
                    if (any) {
                        stem[q.stem][t] = q.by > 100 ? 0 : stem[q.stem][t] * (100 - q.by) / 100;
                    }
                }
            }
            int clip = 9999;
            for (Q q : sheet.cues) {
                if (q.kind.equals("taps")) {
                    long[] was = stem[q.stem].clone();
                    for (int t = 0; t < n; t++) {
                        long sum = 0;
                        for (int i = 0; i < q.w.size(); i++) {
                            sum += t - i < 0 ? 0 : was[t - i] * q.w.get(i);
                        }
                        stem[q.stem][t] = sum / 100;
                    }
                }
                clip = q.kind.equals("clip") ? q.number : clip;
            }
            int[] out = new int[n];
            for (int t = 0; t < n; t++) {
                long sum = stem[0][t] + stem[1][t] + stem[2][t];
                out[t] = (int) (sum > clip ? clip : sum < -clip ? -clip : sum);
            }
            return out;
        }

        private void remake(int n, int sheet, int edition) {
            Sht sh = sheets.get(sheet);
            Snd s = snd(n);
            int[] mix = mix(sh, new HashSet<>());
            int[] out = new int[4 * frames(edition)];
            for (int t = 0; t < out.length; t++) {
                int f = old(edition, t / 4, sh.edition);
                out[t] = f < 0 ? 0 : mix[4 * f + t % 4];
            }
            int gen = 0;
            for (int i : laid(sh)) {
                gen = Math.max(gen, snd(i).gen);
            }
            s.gen = gen + 1;
            s.s = out;
            s.sheet = sheet;
            s.edition = edition;
            s.stamp = ++stamp;
        }

        private boolean noSheet(int sheet, int edition) {
            return sheet < 0 || sheet >= sheets.size() || !ed(edition) || edition < sheets.get(sheet).edition;
        }

        int make(int n, int sheet, int edition) {
            if (snd(n) == null || snd(n).kind != 6 || noSheet(sheet, edition)) {
                return -1;
            }
            for (int i : laid(sheets.get(sheet))) {
                if (snd(i) == null || i == n || on(i).contains(n)) {
                    return -2;
                }
            }
            remake(n, sheet, edition);
            return stamp;
        }

        int again() {
            TreeSet<Integer> left = new TreeSet<>();
            for (int i = 0; i < sounds.size(); i++) {
                if (stale(i)) {
                    left.add(i);
                }
            }
            int n = left.size();
            while (!left.isEmpty()) {
                for (int i : left) {
                    Set<Integer> open = new HashSet<>(on(i));
                    open.retainAll(left);
                    if (open.isEmpty()) {
                        remake(i, snd(i).sheet, snd(i).edition);
                        left.remove(i);
                        break;
                    }
                }
            }
            return n;
        }

        int cues(int sheet) {
            return sheet < 0 || sheet >= sheets.size() ? -1 : sheets.get(sheet).cues.size();
        }

        private Q q(int sheet, int k) {
            return cues(sheet) < 0 || k < 0 || k >= cues(sheet) ? null : sheets.get(sheet).cues.get(k);
        }

        int cue(int sheet, int k, int what) {
            Q q = q(sheet, k);
            if (q == null) {
                return -1;
            }
            switch (what) {
                case 0:
                    return Arrays.asList("lay", "fade", "dip", "taps", "clip").indexOf(q.kind);
                case 1:
                    return q.t == null ? -1 : now(q.t);
                case 2:
                    return q.kind.equals("lay") ? q.sound : q.kind.equals("clip") ? q.number : q.stem;
                case 3:
                    return q.place;
                default:
                    return -1;
            }
        }

        private List<Integer> heardFrames(int sheet, Q q) {
            Set<Integer> all = new TreeSet<>();
            for (int t = 0; t < 4 * frames(sheets.get(sheet).edition); t++) {
                if (takes(q, t) != null) {
                    all.add(t / 4);
                }
            }
            return new ArrayList<>(all);
        }

        private List<Integer> to(int f, int own, int e) {
            List<Integer> all = new ArrayList<>();
            for (int g = 0; g < frames(e); g++) {
                if (old(e, g, own) == f) {
                    all.add(g);
                }
            }
            return all;
        }

        int fate(int sheet, int k, int e) {
            Q q = q(sheet, k);
            if (q == null || !q.kind.equals("lay") || noSheet(sheet, e)) {
                return -1;
            }
            int none = 0;
            List<Integer> line = new ArrayList<>();
            for (int f : heardFrames(sheet, q)) {
                List<Integer> g = to(f, sheets.get(sheet).edition, e);
                if (g.size() > 1) {
                    return 3;
                }
                none += g.isEmpty() ? 1 : 0;
                line.addAll(g);
            }
            if (line.isEmpty()) {
                return 2;
            }
            for (int i = 1; i < line.size(); i++) {
                if (line.get(i) != line.get(i - 1) + 1) {
                    return 1;
                }
            }
            return none > 0 ? 1 : 0;
        }

        int goes(int sheet, int k, int e) {
            Q q = q(sheet, k);
            if (q == null || !q.kind.equals("lay") || noSheet(sheet, e)) {
                return -1;
            }
            int best = 99;
            for (int f : heardFrames(sheet, q)) {
                for (int g : to(f, sheets.get(sheet).edition, e)) {
                    best = Math.min(best, g);
                }
            }
            return best == 99 ? -1 : best;
        }

        int quarrel(int sheet, int i) {
            if (cues(sheet) < 0) {
                return -1;
            }
            List<Integer> all = new ArrayList<>();
            for (int j = 0; j < cues(sheet); j++) {
                for (int k = j + 1; k < cues(sheet); k++) {
                    Q a = q(sheet, j);
                    Q b = q(sheet, k);
                    if (a.kind.equals("fade") && b.kind.equals("fade") && a.stem == b.stem) {
                        Q later = now(a.t) > now(b.t) ? a : b;
                        Q other = later == a ? b : a;
                        if (now(later.t) < now(other.to)) {
                            all.add(64 * j + k);
                        }
                    }
                }
            }
            return i < 0 || i >= all.size() ? -1 : all.get(i);
        }

        private int loudOf(int[] s, int w) {
            int best = -1;
            for (int a = 0; a + 4 * w <= s.length; a += 4) {
                int sum = 0;
                for (int i = a; i < a + 4 * w; i++) {
                    sum += Math.abs(s[i]);
                }
                best = Math.max(best, sum);
            }
            if (best < 0) {
                best = 0;
                for (int v : s) {
                    best += Math.abs(v);
                }
            }
            return best;
        }

        int loud(int n, int w) {
            if (snd(n) == null || w < 1 || w > 60) {
                return -1;
            }
            int[] s = new int[length(n)];
            for (int i = 0; i < s.length; i++) {
                s[i] = heard(n, i);
            }
            return loudOf(s, w);
        }

        int tame(int sheet) {
            Rule loud = null;
            for (Rule rule : rules) {
                loud = loud == null && rule.e == null ? rule : loud;
            }
            if (cues(sheet) < 0 || loud == null) {
                return -1;
            }
            int lays = 0;
            for (Q q : sheets.get(sheet).cues) {
                lays += q.kind.equals("lay") && lays < 8 ? 1 : 0;
            }
            int best = -2;
            for (int bits = 0; bits < 1 << lays; bits++) {
                if (best >= 0 && !ahead(bits, best)) {
                    continue;
                }
                Set<Integer> halved = new HashSet<>();
                for (int i = 0; i < 8; i++) {
                    if ((bits >> i & 1) != 0) {
                        halved.add(i);
                    }
                }
                if (loudOf(mix(sheets.get(sheet), halved), loud.w) <= loud.m * 100) {
                    best = bits;
                }
            }
            return best;
        }

        private static boolean ahead(int one, int other) {
            if (Integer.bitCount(one) != Integer.bitCount(other)) {
                return Integer.bitCount(one) < Integer.bitCount(other);
            }
            int differ = one ^ other;
            return (one & Integer.lowestOneBit(differ)) != 0;
        }

        int seam(int n) {
            Snd s = snd(n);
            return s == null || s.kind != 1 || s.s.length == 0 ? -1 : Math.abs(s.s[s.b - 1] - s.s[s.a]);
        }

        int fit(int one, int other, int slack, int what) {
            Snd a = snd(one);
            Snd b = snd(other);
            if (a == null || b == null || a.kind != 2 || b.kind != 2 || one == other || slack < 0 || slack > 9 || what < 0 || what > 2) {
                return what == 1 ? -100 : -1;
            }
            int[] best = null;
            for (int s = -24; s <= 24; s++) {
                for (int st = 9; st <= 11; st++) {
                    int lack = 0;
                    for (int q : a.mouths) {
                        boolean met = false;
                        for (int p : b.mouths) {
                            met |= Math.abs(p - (s + q * st / 10)) <= slack;
                        }
                        lack += met ? 0 : 1;
                    }
                    int[] key = {lack, Math.abs(s), s < 0 ? 0 : 1, st == 10 ? 0 : st, s, st};
                    if (best == null || Arrays.compare(key, best) < 0) {
                        best = key;
                    }
                }
            }
            return what == 0 ? best[0] : what == 1 ? best[4] : best[5];
        }

        private boolean of(int n, int music) {
            return n == music || snd(n) != null && snd(n).kind == 4 && of(snd(n).src, music);
        }

        int sounding(int sheet, int music, int e) {
            if (noSheet(sheet, e) || snd(music) == null || snd(music).kind != 3) {
                return -1;
            }
            int count = 0;
            for (int g = 0; g < frames(e); g++) {
                int f = old(e, g, sheets.get(sheet).edition);
                boolean any = false;
                for (Q q : sheets.get(sheet).cues) {
                    for (int t = 4 * f; f >= 0 && t < 4 * f + 4 && q.kind.equals("lay") && of(q.sound, music); t++) {
                        Integer taken = takes(q, t);
                        any |= taken != null && taken * q.g / 100 != 0;
                    }
                }
                count += any ? 1 : 0;
            }
            return count;
        }

        int owed(int sheet, int music, int e, int land) {
            int frames = sounding(sheet, music, e);
            if (frames < 0 || land < 0 || land > 9) {
                return -1;
            }
            int lays = 0;
            for (Q q : sheets.get(sheet).cues) {
                lays += q.kind.equals("lay") && of(q.sound, music) ? 1 : 0;
            }
            int seconds = frames / 24 + (frames % 24 > 0 ? 1 : 0);
            int[] vars = {seconds, snd(music).a, land, frames, lays};
            for (Rule rule : rules) {
                if (rule.e != null) {
                    try {
                        int value = rule.e.value(vars);
                        if (rule.cond == null || rule.cond.value(vars) != 0) {
                            return Math.max(0, Math.min(999999, value));
                        }
                    } catch (ArithmeticException byZero) {
                        continue;
                    }
                }
            }
            return 0;
        }

        int count(int what) {
            if (what < 0 || what > 5) {
                return -1;
            }
            return new int[] {editions.size(), sounds.size(), sheets.size(), stamp, rules.size(), tape.length()}[what];
        }

        // ---- texts ----

        private static final Set<String> WORDS = new HashSet<>(Arrays.asList(("block end sheet rules lay at from for gain speed stem fade "
                + "to dip under by hold taps of clip use mark right if loud in or and not seconds owner land frames heard").split(" ")));

        private List<Token> tokens;
        private int i;
        private List<Fault> later;
        private List<String> told;
        private List<List<Q>> bodies;

        private List<Token> tokenize(String s) {
            List<Token> all = new ArrayList<>();
            int p = 0;
            while (p < s.length()) {
                String rest = s.substring(p);
                Token t = new Token();
                t.place = p;
                char c = rest.charAt(0);
                int n = 0;
                if ("\t\n\r ".indexOf(c) >= 0) {
                    p++;
                    continue;
                } else if (c >= 'a' && c <= 'z') {
                    while (n < rest.length() && rest.charAt(n) >= 'a' && rest.charAt(n) <= 'z') {
                        n++;
                    }
                    t.type = n > 8 ? '?' : WORDS.contains(rest.substring(0, n)) ? 'w' : 'n';
                } else if (c >= '0' && c <= '9') {
                    while (n < rest.length() && rest.charAt(n) >= '0' && rest.charAt(n) <= '9') {
                        n++;
                    }
                    t.type = n > 4 ? '?' : 'i';
                } else {
                    t.type = '?';
                    n = 1;
                    for (String sign : new String[] {";", ",", "+", "-", "*", "/", "==", "!=", "<", "<=", "(", ")"}) {
                        if (rest.startsWith(sign)) {
                            t.type = 's';
                            n = sign.length();
                        }
                    }
                }
                t.text = rest.substring(0, n);
                all.add(t);
                p += n;
            }
            Token end = new Token();
            end.type = 'e';
            end.text = "";
            end.place = s.length();
            all.add(end);
            return all;
        }

        private Token next() {
            return tokens.get(i);
        }

        private boolean is(String text) {
            return next().text.equals(text) && next().type != '?' && next().type != 'e';
        }

        private Token step() {
            if (i == 500) {
                throw new Fault(2, next().place);
            }
            return tokens.get(i++);
        }

        private Fault syntax() {
            return new Fault(1, next().place);
        }

        private void need(String text) {
            if (!is(text)) {
                throw syntax();
            }
            step();
        }

        private int integer(int low, int high) {
            if (next().type != 'i') {
                throw syntax();
            }
            Token t = step();
            int v = Integer.parseInt(t.text);
            if (v < low || v > high) {
                later.add(new Fault(5, t.place));
            }
            return v;
        }

        private String name() {
            if (next().type != 'n') {
                throw syntax();
            }
            return step().text;
        }

        int read() {
            if (sheets.size() == 8) {
                return -2;
            }
            String s = tape.toString();
            tape.setLength(0);
            tokens = tokenize(s);
            i = 0;
            later = new ArrayList<>();
            told = new ArrayList<>();
            bodies = new ArrayList<>();
            place = -1;
            try {
                parse();
                return 0;
            } catch (Fault f) {
                place = f.place;
                return f.number;
            }
        }

        private void parse() {
            if (is("rules")) {
                List<Rule> fresh = parseRules();
                judge();
                rules = fresh;
                return;
            }
            while (is("block")) {
                if (told.size() == 6) {
                    throw new Fault(2, next().place);
                }
                step();
                int at = next().place;
                String name = name();
                if (told.contains(name)) {
                    later.add(new Fault(3, at));
                }
                List<Q> body = parseCues();
                told.add(name);
                bodies.add(body);
            }
            int at = next().place;
            need("sheet");
            List<Q> body = parseCues();
            if (next().type != 'e') {
                throw syntax();
            }
            judge();
            if (total(body) > 40) {
                throw new Fault(6, at);
            }
            Sht sheet = new Sht();
            sheet.edition = editions.size() - 1;
            put(sheet, body, new Time());
            sheets.add(sheet);
        }

        private void judge() {
            Fault first = null;
            for (Fault f : later) {
                if (first == null || f.place < first.place || f.place == first.place && f.number < first.number) {
                    first = f;
                }
            }
            if (first != null) {
                throw first;
            }
        }

        private long total(List<Q> body) {
            long sum = 0;
            for (Q q : body) {
                sum += q.kind.equals("use") ? total(bodies.get(told.indexOf(q.name))) : 1;
                if (sum > 1000) {
                    return sum;
                }
            }
            return sum;
        }

        private Time moved(Time t, Time by) {
            if (t == null || t.mark >= 0) {
                return t;
            }
            Time sum = new Time();
            sum.mark = by.mark;
            sum.add = by.add + t.add;
            return sum;
        }

        private void put(Sht sheet, List<Q> body, Time by) {
            for (Q q : body) {
                if (q.kind.equals("use")) {
                    put(sheet, bodies.get(told.indexOf(q.name)), moved(q.t, by));
                    continue;
                }
                Q c = new Q();
                c.kind = q.kind;
                c.place = q.place;
                c.sound = q.sound;
                c.stem = q.stem;
                c.t = moved(q.t, by);
                c.to = moved(q.to, by);
                c.from = q.from;
                c.span = q.span;
                c.g = q.g;
                c.g2 = q.g2;
                c.u = q.u;
                c.v = q.v;
                c.y = q.y;
                c.by = q.by;
                c.hold = q.hold;
                c.w = q.w;
                c.number = q.number;
                sheet.cues.add(c);
            }
        }

        private Time time() {
            Time t = new Time();
            if (is("mark")) {
                step();
                t.mark = integer(0, 7);
                if (is("+")) {
                    step();
                    t.add = integer(0, 60);
                } else if (is("-")) {
                    step();
                    t.add = -integer(0, 60);
                }
            } else {
                t.add = integer(0, 60);
            }
            return t;
        }

        private List<Q> parseCues() {
            List<Q> all = new ArrayList<>();
            while (!is("end")) {
                if (next().type != 'w' || !Arrays.asList("lay", "fade", "dip", "taps", "clip", "use").contains(next().text)) {
                    throw syntax();
                }
                if (all.size() == 16) {
                    throw new Fault(2, next().place);
                }
                Q q = new Q();
                q.place = next().place;
                q.kind = step().text;
                if (q.kind.equals("lay")) {
                    q.sound = integer(0, 19);
                    need("at");
                    q.t = time();
                    if (is("from")) {
                        step();
                        q.from = integer(0, 60);
                    }
                    if (is("for")) {
                        step();
                        q.span = integer(0, 60);
                    }
                    if (is("gain")) {
                        step();
                        q.g = integer(0, 400);
                    }
                    if (is("speed")) {
                        step();
                        q.u = integer(1, 9);
                        need("/");
                        q.v = integer(1, 9);
                    }
                    need("stem");
                    q.stem = integer(0, 2);
                } else if (q.kind.equals("fade")) {
                    q.stem = integer(0, 2);
                    need("from");
                    q.t = time();
                    need("to");
                    q.to = time();
                    need("gain");
                    q.g = integer(0, 400);
                    need(",");
                    q.g2 = integer(0, 400);
                } else if (q.kind.equals("dip")) {
                    q.stem = integer(0, 2);
                    need("under");
                    q.y = integer(0, 2);
                    need("by");
                    q.by = integer(0, 400);
                    need("hold");
                    q.hold = integer(0, 60);
                } else if (q.kind.equals("taps")) {
                    q.stem = integer(0, 2);
                    need("of");
                    q.w.add(integer(0, 400));
                    while (is(",")) {
                        step();
                        if (q.w.size() == 4 && next().type == 'i') {
                            throw new Fault(2, next().place);
                        }
                        q.w.add(integer(0, 400));
                    }
                } else if (q.kind.equals("clip")) {
                    q.number = integer(0, 9999);
                } else {
                    int at = next().place;
                    q.name = name();
                    if (!told.contains(q.name)) {
                        later.add(new Fault(4, at));
                    }
                    need("at");
                    q.t = time();
                }
                need(";");
                all.add(q);
            }
            step();
            return all;
        }

        private List<Rule> parseRules() {
            List<Rule> all = new ArrayList<>();
            step();
            while (!is("end")) {
                if (!is("right") && !is("loud")) {
                    throw syntax();
                }
                if (all.size() == 12) {
                    throw new Fault(2, next().place);
                }
                Rule rule = new Rule();
                if (step().text.equals("loud")) {
                    rule.m = integer(0, 9999);
                    need("in");
                    rule.w = integer(1, 60);
                } else {
                    rule.e = sum(0);
                    if (is("if")) {
                        step();
                        rule.cond = or();
                    }
                }
                need(";");
                all.add(rule);
            }
            step();
            if (next().type != 'e') {
                throw syntax();
            }
            return all;
        }

        private E or() {
            E left = and();
            while (is("or")) {
                step();
                E a = left;
                E b = and();
                left = v -> a.value(v) | b.value(v);
            }
            return left;
        }

        private E and() {
            E left = not();
            while (is("and")) {
                step();
                E a = left;
                E b = not();
                left = v -> a.value(v) & b.value(v);
            }
            return left;
        }

        private E not() {
            if (is("not")) {
                step();
                E a = not();
                return v -> 1 - a.value(v);
            }
            E a = sum(0);
            if (!is("==") && !is("!=") && !is("<") && !is("<=")) {
                throw syntax();
            }
            String sign = step().text;
            E b = sum(0);
            return v -> {
                int x = a.value(v);
                int y = b.value(v);
                boolean holds = sign.equals("==") ? x == y : sign.equals("!=") ? x != y : sign.equals("<") ? x < y : x <= y;
                return holds ? 1 : 0;
            };
        }

        private E sum(int depth) {
            E left = product(depth);
            while (is("+") || is("-")) {
                boolean plus = step().text.equals("+");
                E a = left;
                E b = product(depth);
                left = v -> plus ? a.value(v) + b.value(v) : a.value(v) - b.value(v);
            }
            return left;
        }

        private E product(int depth) {
            E left = unit(depth);
            while (is("*") || is("/")) {
                boolean times = step().text.equals("*");
                E a = left;
                E b = unit(depth);
                left = v -> times ? a.value(v) * b.value(v) : a.value(v) / b.value(v);
            }
            return left;
        }

        private E unit(int depth) {
            if (is("(")) {
                if (depth == 6) {
                    throw new Fault(2, next().place);
                }
                step();
                E inner = sum(depth + 1);
                need(")");
                return inner;
            }
            int var = Arrays.asList("seconds", "owner", "land", "frames", "heard").indexOf(next().type == 'w' ? next().text : "");
            if (var >= 0) {
                step();
                return v -> v[var];
            }
            int value = integer(0, 9999);
            return v -> value;
        }
    }
}
