import java.util.Arrays;

/* A stage on which sound is put to pictures; ../shared/DOC.md says what every call answers. */
public final class MixStage {
    public static final int NONE = -1;

    private static final int REFUSED = -2;
    private static final int NO_SHIFT = -100;
    private static final int MAX_BYTES = 2000;
    private static final int MAX_SHEETS = 8;
    private static final int MAX_SOUNDS = 20;
    private static final int MAX_FRAMES = 60;
    private static final int MAX_SAMPLES = 240;
    private static final int MAX_CUES = 40;
    private static final int MAX_MOUTHS = 8;
    private static final int MARKS = 8;
    private static final int STEMS = 3;
    private static final int GENERATIONS = 8;
    private static final int MAX_VALUE = 9999;

    private final int[] tape = new int[MAX_BYTES];
    private int fed = 0;
    private int faultPlace = NONE;
    private final Sheet[] sheets = new Sheet[MAX_SHEETS];
    private int sheetCount = 0;
    private Rules rules = new Rules();
    private final Picture picture = new Picture();
    private final Bank bank = new Bank();
    private final Reader reader = new Reader();
    private final Mixer mixer = new Mixer(bank, picture);
    private final Tracer tracer = new Tracer(bank, picture, mixer);
    private final View view = new View();

    public MixStage() {
    }

    public int feed(int a, int b, int c, int d, int e) {
        if (fed + 20 > MAX_BYTES) {
            return NONE;
        }
        putWord(a);
        putWord(b);
        putWord(c);
        putWord(d);
        putWord(e);
        return fed;
    }

    public int back(int n) {
        if (n < 0 || n > fed) {
            return NONE;
        }
        fed -= n;
        return fed;
    }

    public int read() {
        if (sheetCount >= MAX_SHEETS) {
            return REFUSED;
        }
        int fault = reader.check(tape, fed);
        faultPlace = reader.placeOfFault();
        fed = 0;
        if (fault == 0 && reader.isRules) {
            rules = reader.exchange(rules);
        } else if (fault == 0) {
            tellSheet();
        }
        return fault;
    }

    public int place() {
        return faultPlace;
    }

    public boolean reel(int frames) {
        return sheetCount == 0 && picture.resize(frames);
    }

    public int edition() {
        return picture.begin();
    }

    public int keep(int a, int b) {
        if (a < 0 || b <= a || b > picture.sizeOf(picture.last() - 1)) {
            return NONE;
        }
        return picture.extend(a, b - a);
    }

    public int blank(int n) {
        return picture.extend(NONE, n);
    }

    public int frames(int edition) {
        return picture.has(edition) ? picture.sizeOf(edition) : NONE;
    }

    public int old(int e, int frame, int d) {
        if (!picture.has(e) || !picture.has(d) || d > e || frame < 0 || frame >= picture.sizeOf(e)) {
            return REFUSED;
        }
        return picture.cameFrom(e, frame, d);
    }

    public int sound(int kind, int n, int a, int b) {
        if (kind < Sound.PLAIN || kind > Sound.MUSIC || n == 0 || n < NONE || n > MAX_SAMPLES) {
            return NONE;
        }
        int end = n == NONE ? MAX_SAMPLES : n;
        if (kind == Sound.LOOP && (a < 0 || b <= a || b > end)) {
            return NONE;
        }
        if (kind == Sound.MUSIC && (a < 0 || a > 7)) {
            return NONE;
        }
        return bank.add(kind, a, b, NONE, n == NONE ? 0 : n);
    }

    public int trim(int sound, int a, int b) {
        if (bank.get(sound) == null || a < 0 || b <= a || b > MAX_SAMPLES) {
            return NONE;
        }
        return bank.add(Sound.TRIMMED, a, b, sound, 0);
    }

    public int mute(int line) {
        return bank.getKind(line, Sound.LINE) == null ? NONE : bank.add(Sound.MUTED, 0, 0, line, 0);
    }

    public int mixed() {
        return bank.add(Sound.MIXED, 0, 0, NONE, 0);
    }

    public boolean wave(int sound, int a, int b, int v, int step) {
        Sound told = bank.get(sound);
        if (told == null || !told.canWave(a, b, v, step)) {
            return false;
        }
        for (int i = a; i < b && i < MAX_SAMPLES; i++) {
            put(told.samples, i, v + step * (i - a));
        }
        told.stamp = bank.nextStamp();
        return true;
    }

    public boolean sample(int sound, int i, int v) {
        Sound told = bank.get(sound);
        if (told == null || told.kind > Sound.MUSIC || i < 0 || i >= told.size || !isSample(v)) {
            return false;
        }
        put(told.samples, i, v);
        told.stamp = bank.nextStamp();
        return true;
    }

    public int mouth(int line, int frame) {
        Sound told = bank.getKind(line, Sound.LINE);
        if (told == null || told.mouthCount >= MAX_MOUTHS || frame < 0 || frame >= MAX_FRAMES) {
            return NONE;
        }
        put(told.mouths, told.mouthCount, frame);
        told.mouthCount++;
        return told.mouthCount;
    }

    public boolean mark(int mark, int frame) {
        if (mark < 0 || mark >= MARKS || frame < 0 || frame > MAX_FRAMES) {
            return false;
        }
        bank.setMark(mark, frame);
        return true;
    }

    public boolean hisses(int generation, int v) {
        if (generation < 0 || generation >= GENERATIONS || v < 0 || v > 999) {
            return false;
        }
        bank.setHiss(generation, v);
        return true;
    }

    public int make(int sound, int sheet, int edition) {
        Sound made = bank.getKind(sound, Sound.MIXED);
        Sheet told = sheetAt(sheet);
        if (made == null || !reaches(told, edition)) {
            return NONE;
        }
        if (!bank.mayLay(told, sound)) {
            return REFUSED;
        }
        made.sheet = told;
        made.sheetNumber = sheet;
        made.edition = edition;
        remake(made);
        return made.stamp;
    }

    public int again() {
        int left = bank.staleMask();
        int count = 0;
        for (int pass = 0; pass < MAX_SOUNDS && left != 0; pass++) {
            int number = bank.firstFree(left);
            Sound made = bank.get(number);
            if (made == null) {
                return count;
            }
            remake(made);
            left &= ~(1 << number);
            count++;
        }
        return count;
    }

    public int length(int sound) {
        if (bank.get(sound) == null) {
            return NONE;
        }
        view.aim(bank, sound);
        return view.size;
    }

    public int heard(int sound, int i) {
        view.aim(bank, sound);
        return view.sampleAt(i);
    }

    public int about(int sound, int what) {
        Sound told = bank.get(sound);
        if (told == null) {
            return NONE;
        }
        switch (what) {
            case 0:
                return told.kind;
            case 1:
                return told.generation;
            case 2:
                return bank.hissOf(sound);
            case 3:
                return told.stamp;
            case 4:
                return (bank.staleMask() >>> sound) & 1;
            case 5:
                return told.sheetNumber;
            case 6:
                return told.edition;
            default:
                return NONE;
        }
    }

    public int leans(int sound) {
        return bank.get(sound) == null ? NONE : bank.leansOf(sound);
    }

    public int cues(int sheet) {
        Sheet told = sheetAt(sheet);
        return told == null ? NONE : told.count;
    }

    public int cue(int sheet, int k, int what) {
        Cue cue = cueOf(sheetAt(sheet), k);
        if (cue == null) {
            return NONE;
        }
        switch (what) {
            case 0:
                return cue.kind;
            case 1:
                return cue.hasTime() ? bank.frameNow(cue.mark, cue.frame) : NONE;
            case 2:
                return cue.kind == Cue.LAY || cue.kind == Cue.CLIP ? cue.number : cue.stem;
            case 3:
                return cue.place;
            default:
                return NONE;
        }
    }

    public int fate(int sheet, int k, int edition) {
        Sheet told = sheetAt(sheet);
        Cue cue = cueOf(told, k);
        if (cue == null || cue.kind != Cue.LAY || !reaches(told, edition)) {
            return NONE;
        }
        return tracer.fateOf(told.edition, cue, edition);
    }

    public int goes(int sheet, int k, int edition) {
        Sheet told = sheetAt(sheet);
        Cue cue = cueOf(told, k);
        if (cue == null || cue.kind != Cue.LAY || !reaches(told, edition)) {
            return NONE;
        }
        return tracer.firstFrameOf(told.edition, cue, edition);
    }

    public int quarrel(int sheet, int i) {
        Sheet told = sheetAt(sheet);
        return told == null || i < 0 ? NONE : tracer.quarrelOf(told, i);
    }

    public int loud(int sound, int w) {
        if (bank.get(sound) == null || w < 1 || w > MAX_FRAMES) {
            return NONE;
        }
        return mixer.loudOfSound(sound, w);
    }

    public int tame(int sheet) {
        Sheet told = sheetAt(sheet);
        int rule = rules.firstLoud();
        if (told == null || rule == NONE) {
            return NONE;
        }
        return mixer.fewestHalved(told, rules.widthOf(rule), 100 * rules.hundredsOf(rule));
    }

    public int seam(int sound) {
        Sound loop = bank.getKind(sound, Sound.LOOP);
        if (loop == null || loop.size == 0) {
            return NONE;
        }
        return Math.abs(at(loop.samples, loop.end - 1) - at(loop.samples, loop.first));
    }

    public int fit(int one, int other, int slack, int what) {
        Sound first = bank.getKind(one, Sound.LINE);
        Sound second = bank.getKind(other, Sound.LINE);
        if (first == null || second == null || one == other || slack < 0 || slack > 9) {
            return what == 1 ? NO_SHIFT : NONE;
        }
        return tracer.fitOf(first, second, slack, what);
    }

    public int sounding(int sheet, int music, int edition) {
        Sheet told = sheetAt(sheet);
        if (bank.getKind(music, Sound.MUSIC) == null || !reaches(told, edition)) {
            return NONE;
        }
        return tracer.framesOfMusic(told, music, edition);
    }

    public int owed(int sheet, int music, int edition, int land) {
        Sheet told = sheetAt(sheet);
        Sound tune = bank.getKind(music, Sound.MUSIC);
        if (tune == null || !reaches(told, edition) || land < 0 || land > 9) {
            return NONE;
        }
        int frames = tracer.framesOfMusic(told, music, edition);
        rules.set(Tokens.SECONDS, (frames + 23) / 24);
        rules.set(Tokens.OWNER, tune.first);
        rules.set(Tokens.LAND, land);
        rules.set(Tokens.FRAMES, frames);
        rules.set(Tokens.HEARD, tracer.laysOfMusic(told, music));
        return Math.max(0, Math.min(999999, rules.firstRight()));
    }

    public int count(int what) {
        switch (what) {
            case 0:
                return picture.last() + 1;
            case 1:
                return bank.soundCount;
            case 2:
                return sheetCount;
            case 3:
                return bank.stamp;
            case 4:
                return rules.ruleCount;
            case 5:
                return fed;
            default:
                return NONE;
        }
    }

    private void putWord(int word) {
        for (int shift = 24; shift >= 0; shift -= 8) {
            put(tape, fed, (word >>> shift) & 255);
            fed++;
        }
    }

    private void tellSheet() {
        if (sheetCount < 0 || sheetCount >= sheets.length) {
            return;
        }
        Sheet told = new Sheet(picture.last());
        reader.fill(told);
        picture.tellLast();
        sheets[sheetCount] = told;
        sheetCount++;
    }

    private Sheet sheetAt(int number) {
        return number < 0 || number >= sheetCount || number >= sheets.length ? null : sheets[number];
    }

    private static Cue cueOf(Sheet sheet, int k) {
        return sheet == null ? null : sheet.cueAt(k);
    }

    private boolean reaches(Sheet sheet, int edition) {
        return sheet != null && picture.has(edition) && edition >= sheet.edition;
    }

    private void remake(Sound made) {
        Sheet sheet = made.sheet;
        if (sheet == null) {
            return;
        }
        int generation = bank.generationBy(sheet);
        made.size = mixer.mixInto(made.samples, sheet, made.edition);
        made.generation = generation;
        made.stamp = bank.nextStamp();
    }

    private static boolean isSample(long value) {
        return value >= -MAX_VALUE && value <= MAX_VALUE;
    }

    private static int at(int[] row, int i) {
        return row == null || i < 0 || i >= row.length ? 0 : row[i];
    }

    private static long at(long[] row, int i) {
        return row == null || i < 0 || i >= row.length ? 0L : row[i];
    }

    private static void put(int[] row, int i, int value) {
        if (row != null && i >= 0 && i < row.length) {
            row[i] = value;
        }
    }

    private static void put(long[] row, int i, long value) {
        if (row != null && i >= 0 && i < row.length) {
            row[i] = value;
        }
    }

    private static void clear(int[] row, int value) {
        if (row != null) {
            Arrays.fill(row, value);
        }
    }

    /* The EDITIONS and where their FRAMES come from. */
    private static final class Picture {
        private static final int MAX_EDITIONS = 6;
        private static final int MAX_PARTS = 10;

        private final int[] sizes = new int[MAX_EDITIONS];
        private final int[] parts = new int[MAX_EDITIONS];
        /* For every FRAME of an EDITION that of the one ahead, or NONE. */
        private final int[] origins = new int[MAX_EDITIONS * MAX_FRAMES];
        private int editions = 1;
        private int told = NONE;

        private Picture() {
            put(sizes, 0, 24);
        }

        private boolean has(int e) {
            return e >= 0 && e < editions;
        }

        private int last() {
            return editions - 1;
        }

        private int sizeOf(int e) {
            return at(sizes, e);
        }

        private boolean resize(int frames) {
            if (editions > 1 || frames < 1 || frames > MAX_FRAMES) {
                return false;
            }
            put(sizes, 0, frames);
            return true;
        }

        private int begin() {
            if (editions >= MAX_EDITIONS || sizeOf(last()) == 0) {
                return NONE;
            }
            editions++;
            return last();
        }

        /* A SHEET was told for the last EDITION: its PARTS stay as they are. */
        private void tellLast() {
            told = last();
        }

        /* With first NONE the FRAMES are BLANK. */
        private int extend(int first, int n) {
            int e = last();
            int size = sizeOf(e);
            if (e == 0 || told == e || at(parts, e) >= MAX_PARTS || n < 1 || n > MAX_FRAMES - size) {
                return NONE;
            }
            for (int i = 0; i < n; i++) {
                put(origins, e * MAX_FRAMES + size + i, first == NONE ? NONE : first + i);
            }
            put(sizes, e, size + n);
            put(parts, e, at(parts, e) + 1);
            return size + n;
        }

        private int cameFrom(int e, int frame, int d) {
            int f = frame;
            for (int level = e; level > d && f != NONE; level--) {
                f = at(origins, level * MAX_FRAMES + f);
            }
            return f;
        }
    }

    /* A SOUND as it was told; a MISSING one has size 0, as has a MIXED one that was not made. */
    private static final class Sound {
        private static final int PLAIN = 0;
        private static final int LOOP = 1;
        private static final int LINE = 2;
        private static final int MUSIC = 3;
        private static final int TRIMMED = 4;
        private static final int MUTED = 5;
        private static final int MIXED = 6;

        private final int kind;
        /* The a and b of a LOOP or TRIMMED one; a MUSIC's OWNER is first. */
        private final int first;
        private final int end;
        private final int source;
        private final int[] samples = new int[MAX_SAMPLES];
        private final int[] mouths = new int[MAX_MOUTHS];
        private int size;
        private int mouthCount = 0;
        private int stamp = 0;
        private int generation = 0;
        private Sheet sheet = null;
        private int sheetNumber = NONE;
        private int edition = NONE;

        private Sound(int kind, int first, int end, int source, int size) {
            this.kind = kind;
            this.first = first;
            this.end = end;
            this.source = source;
            this.size = size;
        }

        private boolean canWave(int a, int b, int v, int step) {
            if (kind > MUSIC) {
                return false;
            }
            // a row of no SAMPLES asks for none that could be lacking or too large
            if (a >= b) {
                return true;
            }
            if (a < 0 || b > size) {
                return false;
            }
            return isSample(v) && isSample(v + (long) step * (b - 1 - a));
        }
    }

    /* The SAMPLES of a SOUND, looked up at the end of its chain of TRIMMED ones. */
    private static final class View {
        private static final int FAR = 1000000;

        private Sound root = null;
        private int shift = 0;
        private int size = 0;

        private void aim(Bank bank, int number) {
            int end = FAR;
            shift = 0;
            size = 0;
            root = bank.get(number);
            for (int step = 0; step < MAX_SOUNDS && root != null && root.kind == Sound.TRIMMED; step++) {
                shift += root.first;
                end = Math.min(end + root.first, root.end);
                root = bank.get(root.source);
            }
            if (root != null) {
                size = Math.max(0, Math.min(end, bank.ownLength(root)) - shift);
            }
        }

        private int sampleAt(int i) {
            if (root == null || root.kind == Sound.MUTED || i < 0 || i >= size) {
                return 0;
            }
            return at(root.samples, shift + i);
        }
    }

    /* All SOUNDS, MARKS and STAMPS, and what leans on what. */
    private static final class Bank {
        private final Sound[] sounds = new Sound[MAX_SOUNDS];
        private int soundCount = 0;
        private int stamp = 0;
        private final int[] marks = new int[MARKS];
        private final int[] markStamps = new int[MARKS];
        private final int[] hissRow = new int[GENERATIONS];
        private final int[] leaning = new int[MAX_SOUNDS];
        private final int[] hissing = new int[MAX_SOUNDS];

        private Sound get(int number) {
            return number < 0 || number >= soundCount || number >= sounds.length ? null : sounds[number];
        }

        private Sound getKind(int number, int kind) {
            Sound sound = get(number);
            return sound == null || sound.kind != kind ? null : sound;
        }

        private int add(int kind, int first, int end, int source, int size) {
            if (soundCount < 0 || soundCount >= sounds.length) {
                return NONE;
            }
            Sound sound = new Sound(kind, first, end, source, size);
            sound.stamp = nextStamp();
            sounds[soundCount] = sound;
            soundCount++;
            return soundCount - 1;
        }

        private int nextStamp() {
            stamp++;
            return stamp;
        }

        private void setMark(int mark, int frame) {
            put(marks, mark, frame);
            put(markStamps, mark, nextStamp());
        }

        private void setHiss(int generation, int v) {
            put(hissRow, generation, v);
        }

        private int frameNow(int mark, int frame) {
            return mark == NONE ? frame : at(marks, mark) + frame;
        }

        private int ownLength(Sound sound) {
            if (sound.kind != Sound.MUTED) {
                return sound.size;
            }
            Sound line = get(sound.source);
            return line == null ? 0 : line.size;
        }

        private int leansAtOnce(Sound sound) {
            if (sound == null) {
                return 0;
            }
            Sheet sheet = sound.sheet;
            if (sheet != null) {
                return sheet.laid;
            }
            return sound.source == NONE ? 0 : 1 << sound.source;
        }

        private static int joined(int[] row, int bits) {
            int all = 0;
            for (int i = 0; i < MAX_SOUNDS; i++) {
                if (((bits >>> i) & 1) != 0) {
                    all |= at(row, i);
                }
            }
            return all;
        }

        /* No chain of SOUNDS is longer than there are SOUNDS: so many passes and one leave nothing open. */
        private void findLeaning() {
            clear(leaning, 0);
            boolean more = true;
            for (int pass = 0; pass <= MAX_SOUNDS && more; pass++) {
                more = false;
                for (int i = 0; i < soundCount; i++) {
                    int once = leansAtOnce(get(i));
                    int all = once | joined(leaning, once);
                    more |= all != at(leaning, i);
                    put(leaning, i, all);
                }
            }
        }

        private int leansOf(int number) {
            findLeaning();
            return at(leaning, number);
        }

        private boolean mayLay(Sheet sheet, int number) {
            findLeaning();
            boolean allThere = (sheet.laid >>> soundCount) == 0;
            int touched = sheet.laid | joined(leaning, sheet.laid);
            return allThere && ((touched >>> number) & 1) == 0;
        }

        private boolean isBehind(Sound made, Sheet sheet, int bits) {
            for (int i = 0; i < soundCount; i++) {
                Sound other = get(i);
                if (((bits >>> i) & 1) != 0 && other != null && other.stamp > made.stamp) {
                    return true;
                }
            }
            for (int mark = 0; mark < MARKS; mark++) {
                if (((sheet.hung >>> mark) & 1) != 0 && at(markStamps, mark) > made.stamp) {
                    return true;
                }
            }
            return false;
        }

        private boolean isNewlyStale(int number, int stale) {
            Sound made = get(number);
            if (made == null || made.sheet == null || ((stale >>> number) & 1) != 0) {
                return false;
            }
            int bits = at(leaning, number);
            return (bits & stale) != 0 || isBehind(made, made.sheet, bits);
        }

        private int staleMask() {
            findLeaning();
            int stale = 0;
            int before = NONE;
            for (int pass = 0; pass <= MAX_SOUNDS && stale != before; pass++) {
                before = stale;
                for (int i = 0; i < soundCount; i++) {
                    stale |= isNewlyStale(i, stale) ? 1 << i : 0;
                }
            }
            return stale;
        }

        /* The least of some MIXED ones that leans on none of them; staleMask() has found what leans on what. */
        private int firstFree(int left) {
            for (int i = 0; i < soundCount; i++) {
                if (((left >>> i) & 1) != 0 && (at(leaning, i) & left) == 0) {
                    return i;
                }
            }
            return NONE;
        }

        private int generationBy(Sheet sheet) {
            int greatest = 0;
            for (int i = 0; i < soundCount; i++) {
                Sound laid = get(i);
                if (((sheet.laid >>> i) & 1) != 0 && laid != null) {
                    greatest = Math.max(greatest, laid.generation);
                }
            }
            return greatest + 1;
        }

        private int hissOf(int number) {
            clear(hissing, 0);
            boolean more = true;
            for (int pass = 0; pass <= MAX_SOUNDS && more; pass++) {
                more = false;
                for (int i = 0; i < soundCount; i++) {
                    int hiss = ownHiss(get(i));
                    more |= hiss != at(hissing, i);
                    put(hissing, i, hiss);
                }
            }
            return at(hissing, number);
        }

        private int ownHiss(Sound sound) {
            if (sound == null) {
                return 0;
            }
            int greatest = 0;
            int laid = sound.sheet == null ? 0 : sound.sheet.laid;
            for (int i = 0; i < soundCount; i++) {
                if (((laid >>> i) & 1) != 0) {
                    greatest = Math.max(greatest, at(hissing, i));
                }
            }
            return at(hissRow, Math.min(sound.generation, GENERATIONS - 1)) + greatest;
        }
    }

    /* A CUE; a use of a block is one only until the blocks are put in. */
    private static final class Cue {
        private static final int LAY = 0;
        private static final int FADE = 1;
        private static final int DIP = 2;
        private static final int TAPS = 3;
        private static final int CLIP = 4;
        private static final int USE = 5;
        private static final int MAX_WEIGHTS = 4;

        private int kind = LAY;
        private int place = 0;
        /* A lay's SOUND, a clip's number, a use's block. */
        private int number = 0;
        private int stem = 0;
        /* A T is a FRAME, or with a MARK (not NONE) what is added to that. */
        private int mark = NONE;
        private int frame = 0;
        private int endMark = NONE;
        private int endFrame = 0;
        private int from = 0;
        private int span = NONE;
        private int gain = 100;
        private int lastGain = 100;
        private int upper = 1;
        private int lower = 1;
        private int under = 0;
        private int by = 0;
        private int hold = 0;
        private final int[] weights = new int[MAX_WEIGHTS];
        private int tapCount = 0;

        private boolean hasTime() {
            return kind == LAY || kind == FADE;
        }

        private void reset(int kind, int place) {
            this.kind = kind;
            this.place = place;
            number = 0;
            stem = 0;
            mark = NONE;
            frame = 0;
            endMark = NONE;
            endFrame = 0;
            from = 0;
            span = NONE;
            gain = 100;
            lastGain = 100;
            upper = 1;
            lower = 1;
            under = 0;
            by = 0;
            hold = 0;
            tapCount = 0;
        }

        private void copy(Cue other) {
            reset(other.kind, other.place);
            number = other.number;
            stem = other.stem;
            mark = other.mark;
            frame = other.frame;
            endMark = other.endMark;
            endFrame = other.endFrame;
            from = other.from;
            span = other.span;
            gain = other.gain;
            lastGain = other.lastGain;
            upper = other.upper;
            lower = other.lower;
            under = other.under;
            by = other.by;
            hold = other.hold;
            tapCount = other.tapCount;
            for (int i = 0; i < MAX_WEIGHTS; i++) {
                put(weights, i, at(other.weights, i));
            }
        }

        /* FRAMES that hang on no MARK of their own are told from where the block is used. */
        private void shift(int byMark, int byFrame) {
            if (mark == NONE) {
                mark = byMark;
                frame += byFrame;
            }
            if (endMark == NONE) {
                endMark = byMark;
                endFrame += byFrame;
            }
        }
    }

    /* A cue sheet with all blocks put in. */
    private static final class Sheet {
        private final int edition;
        private final Cue[] cues = new Cue[MAX_CUES];
        private int count = 0;
        private int laid = 0;
        private int hung = 0;

        private Sheet(int edition) {
            this.edition = edition;
        }

        private Cue cueAt(int k) {
            return k < 0 || k >= count || k >= cues.length ? null : cues[k];
        }

        private void add(Cue told, int byMark, int byFrame) {
            if (count < 0 || count >= cues.length) {
                return;
            }
            Cue cue = new Cue();
            cue.copy(told);
            cue.shift(byMark, byFrame);
            if (cue.kind == Cue.LAY) {
                laid |= 1 << cue.number;
            }
            if (cue.hasTime() && cue.mark != NONE) {
                hung |= 1 << cue.mark;
            }
            if (cue.kind == Cue.FADE && cue.endMark != NONE) {
                hung |= 1 << cue.endMark;
            }
            cues[count] = cue;
            count++;
        }
    }

    /* The TOKENS of a text: one more than a text may have, then its end. */
    private static final class Tokens {
        private static final int TEXT_END = 0;
        private static final int NO_TOKEN = 1;
        private static final int NAME = 2;
        private static final int INT = 3;
        private static final int SEMICOLON = 4;
        private static final int COMMA = 5;
        private static final int PLUS = 6;
        private static final int MINUS = 7;
        private static final int TIMES = 8;
        private static final int OVER = 9;
        private static final int OPEN = 10;
        private static final int CLOSE = 11;
        private static final int SAME = 12;
        private static final int OTHER = 13;
        private static final int LESS = 14;
        private static final int AT_MOST = 15;
        private static final int BLOCK = 16;
        private static final int END = 17;
        private static final int SHEET = 18;
        private static final int RULES = 19;
        private static final int LAY = 20;
        private static final int FADE = 21;
        private static final int DIP = 22;
        private static final int TAPS = 23;
        private static final int CLIP = 24;
        private static final int USE = 25;
        private static final int AT = 26;
        private static final int FROM = 27;
        private static final int FOR = 28;
        private static final int GAIN = 29;
        private static final int SPEED = 30;
        private static final int STEM = 31;
        private static final int TO = 32;
        private static final int UNDER = 33;
        private static final int BY = 34;
        private static final int HOLD = 35;
        private static final int OF = 36;
        private static final int MARK = 37;
        private static final int RIGHT = 38;
        private static final int IF = 39;
        private static final int LOUD = 40;
        private static final int IN = 41;
        private static final int OR = 42;
        private static final int AND = 43;
        private static final int NOT = 44;
        private static final int SECONDS = 45;
        private static final int OWNER = 46;
        private static final int LAND = 47;
        private static final int FRAMES = 48;
        private static final int HEARD = 49;
        private static final int WORD_COUNT = 34;
        private static final int MAX_TOKENS = 500;
        /* In the order of their numbers from BLOCK on. */
        private static final String WORDS = "block end sheet rules lay fade dip taps clip use at from for gain speed ";
        private static final String MORE_WORDS = "stem to under by hold of mark right if loud in or and not ";
        private static final String VARIABLES = "seconds owner land frames heard ";

        private final long[] words = new long[WORD_COUNT];
        private final int[] kinds = new int[MAX_TOKENS + 2];
        private final int[] places = new int[MAX_TOKENS + 2];
        private final long[] values = new long[MAX_TOKENS + 2];
        private int tokenCount = 0;

        private Tokens() {
            learn(BLOCK, WORDS);
            learn(STEM, MORE_WORDS);
            learn(SECONDS, VARIABLES);
        }

        private void learn(int firstKind, String list) {
            int word = firstKind - BLOCK;
            long code = 0;
            for (int i = 0; i < list.length(); i++) {
                char c = list.charAt(i);
                if (c == ' ') {
                    put(words, word, code);
                    word++;
                    code = 0;
                } else {
                    code = withLetter(code, c);
                }
            }
        }

        private static long withLetter(long code, int letter) {
            return code * 32 + (letter - 'a' + 1);
        }

        private int kindOf(int i) {
            return i < 0 || i >= tokenCount || i >= kinds.length ? TEXT_END : kinds[i];
        }

        private long valueOf(int i) {
            return i < 0 || i >= tokenCount || i >= values.length ? 0 : values[i];
        }

        private int placeOf(int i) {
            return at(places, i);
        }

        private void scan(int[] tape, int length) {
            tokenCount = 0;
            int i = 0;
            while (i < length && tokenCount <= MAX_TOKENS) {
                i = Math.max(i + 1, scanOne(tape, i, length));
            }
            note(TEXT_END, length, 0);
        }

        private void note(int kind, int place, long value) {
            put(kinds, tokenCount, kind);
            put(places, tokenCount, place);
            put(values, tokenCount, value);
            tokenCount++;
        }

        /* Where the next one can begin. */
        private int scanOne(int[] tape, int i, int length) {
            int c = at(tape, i);
            if (c == 9 || c == 10 || c == 13 || c == 32) {
                return i + 1;
            }
            if (c >= 'a' && c <= 'z') {
                return scanName(tape, i, length);
            }
            if (c >= '0' && c <= '9') {
                return scanInt(tape, i, length);
            }
            boolean beforeSame = i + 1 < length && at(tape, i + 1) == '=';
            int pair = beforeSame ? pairKind(c) : NO_TOKEN;
            if (pair != NO_TOKEN) {
                note(pair, i, 0);
                return i + 2;
            }
            note(signKind(c), i, 0);
            return i + 1;
        }

        private int scanName(int[] tape, int i, int length) {
            int end = i;
            long code = 0;
            while (end < length && at(tape, end) >= 'a' && at(tape, end) <= 'z') {
                code = withLetter(code, at(tape, end));
                end++;
            }
            note(end - i > 8 ? NO_TOKEN : wordKind(code), i, code);
            return end;
        }

        private int wordKind(long code) {
            for (int i = 0; i < WORD_COUNT; i++) {
                if (at(words, i) == code) {
                    return BLOCK + i;
                }
            }
            return NAME;
        }

        private int scanInt(int[] tape, int i, int length) {
            int end = i;
            long value = 0;
            while (end < length && at(tape, end) >= '0' && at(tape, end) <= '9') {
                value = value * 10 + (at(tape, end) - '0');
                end++;
            }
            note(end - i > 4 ? NO_TOKEN : INT, i, value);
            return end;
        }

        private static int pairKind(int c) {
            switch (c) {
                case '=':
                    return SAME;
                case '!':
                    return OTHER;
                case '<':
                    return AT_MOST;
                default:
                    return NO_TOKEN;
            }
        }

        private static int signKind(int c) {
            switch (c) {
                case ';':
                    return SEMICOLON;
                case ',':
                    return COMMA;
                case '+':
                    return PLUS;
                case '-':
                    return MINUS;
                case '*':
                    return TIMES;
                case '/':
                    return OVER;
                case '(':
                    return OPEN;
                case ')':
                    return CLOSE;
                case '<':
                    return LESS;
                default:
                    return NO_TOKEN;
            }
        }
    }

    /* Reads a text; after its first fault of SYNTAX or ROOM it takes no TOKEN more. */
    private static final class Reader {
        private static final int SYNTAX = 1;
        private static final int ROOM = 2;
        private static final int TWICE = 3;
        private static final int UNKNOWN = 4;
        private static final int WRONG = 5;
        private static final int LONG = 6;
        private static final int MAX_BLOCKS = 6;
        private static final int MAX_PART_CUES = 16;
        private static final int MAX_NESTED = 6;
        private static final int MAX_GAIN = 400;

        private final Tokens tokens = new Tokens();
        private int next = 0;
        private int kind = Tokens.TEXT_END;
        private int fault = 0;
        private int faultToken = 0;
        /* TWICE, UNKNOWN, WRONG or LONG: told only if the text has no fault of the other kinds. */
        private int laterFault = 0;
        private int laterToken = 0;
        private boolean isRules = false;
        private Rules draft = new Rules();
        /* Those of block i are in row i, those of the sheet behind those of the last block. */
        private final Cue[] cues = new Cue[(MAX_BLOCKS + 1) * MAX_PART_CUES];
        private final int[] cueCounts = new int[MAX_BLOCKS + 1];
        private final int[] totals = new int[MAX_BLOCKS + 1];
        private final long[] names = new long[MAX_BLOCKS];
        private int blocks = 0;
        private final int[] waiting = new int[64];
        private int waitingCount = 0;

        private Reader() {
            for (int i = 0; i < cues.length; i++) {
                cues[i] = new Cue();
            }
        }

        private int check(int[] tape, int length) {
            tokens.scan(tape, length);
            start();
            for (int step = 0; step <= MAX_BLOCKS && fault == 0 && kind == Tokens.BLOCK; step++) {
                beginBlock();
                readCues();
                endBlock();
            }
            if (isRules) {
                readRules();
            } else {
                int sheetToken = next;
                take(Tokens.SHEET);
                readCues();
                endSheet(sheetToken);
            }
            if (kind != Tokens.TEXT_END) {
                fail(SYNTAX);
            }
            if (fault == 0) {
                fault = laterFault;
                faultToken = laterToken;
            }
            return fault;
        }

        private void start() {
            next = 0;
            kind = tokens.kindOf(0);
            fault = 0;
            laterFault = 0;
            blocks = 0;
            isRules = kind == Tokens.RULES;
        }

        private int placeOfFault() {
            return fault == 0 ? NONE : tokens.placeOf(faultToken);
        }

        private Rules exchange(Rules old) {
            Rules told = draft;
            draft = old;
            return told;
        }

        private void fail(int number) {
            if (fault == 0) {
                fault = number;
                faultToken = next;
            }
        }

        private void blame(int number, int token) {
            if (laterFault == 0) {
                laterFault = number;
                laterToken = token;
            }
        }

        private void take(int wanted) {
            if (kind != wanted) {
                fail(SYNTAX);
            } else if (next >= Tokens.MAX_TOKENS) {
                fail(ROOM);
            }
            if (fault == 0) {
                next++;
                kind = tokens.kindOf(next);
            }
        }

        private int takeInt(int low, int high) {
            int value = (int) tokens.valueOf(next);
            if (value < low || value > high) {
                blame(WRONG, next);
            }
            take(Tokens.INT);
            return value;
        }

        private void beginBlock() {
            if (blocks >= MAX_BLOCKS) {
                fail(ROOM);
            }
            take(Tokens.BLOCK);
            long name = tokens.valueOf(next);
            if (blockOf(name) != NONE) {
                blame(TWICE, next);
            }
            put(names, blocks, name);
            take(Tokens.NAME);
        }

        private void endBlock() {
            take(Tokens.END);
            blocks += fault == 0 ? 1 : 0;
        }

        private void endSheet(int sheetToken) {
            take(Tokens.END);
            if (at(totals, blocks) > MAX_CUES) {
                blame(LONG, sheetToken);
            }
        }

        private int blockOf(long name) {
            for (int i = 0; i < blocks; i++) {
                if (at(names, i) == name) {
                    return i;
                }
            }
            return NONE;
        }

        private void readCues() {
            int count = 0;
            int total = 0;
            for (int step = 0; step <= MAX_PART_CUES && fault == 0 && isCue(kind); step++) {
                Cue cue = cueAt(blocks, count);
                if (cue == null) {
                    fail(ROOM);
                } else {
                    cue.reset(kind - Tokens.LAY, tokens.placeOf(next));
                    take(kind);
                    switch (cue.kind) {
                        case Cue.LAY:
                            readLay(cue);
                            break;
                        case Cue.FADE:
                            readFade(cue);
                            break;
                        case Cue.DIP:
                            readDip(cue);
                            break;
                        case Cue.TAPS:
                            readTaps(cue);
                            break;
                        case Cue.CLIP:
                            cue.number = takeInt(0, MAX_VALUE);
                            break;
                        default:
                            readUse(cue);
                            break;
                    }
                    take(Tokens.SEMICOLON);
                    count++;
                    total += cue.kind == Cue.USE ? at(totals, cue.number) : 1;
                }
            }
            put(cueCounts, blocks, count);
            put(totals, blocks, total);
        }

        private static boolean isCue(int kind) {
            return kind >= Tokens.LAY && kind <= Tokens.USE;
        }

        private Cue cueAt(int part, int k) {
            int i = part * MAX_PART_CUES + k;
            return k < 0 || k >= MAX_PART_CUES || i < 0 || i >= cues.length ? null : cues[i];
        }

        private void readLay(Cue cue) {
            cue.number = takeInt(0, MAX_SOUNDS - 1);
            take(Tokens.AT);
            readTime(cue, false);
            if (kind == Tokens.FROM) {
                take(Tokens.FROM);
                cue.from = takeInt(0, MAX_FRAMES);
            }
            if (kind == Tokens.FOR) {
                take(Tokens.FOR);
                cue.span = takeInt(0, MAX_FRAMES);
            }
            if (kind == Tokens.GAIN) {
                take(Tokens.GAIN);
                cue.gain = takeInt(0, MAX_GAIN);
            }
            if (kind == Tokens.SPEED) {
                take(Tokens.SPEED);
                cue.upper = takeInt(1, 9);
                take(Tokens.OVER);
                cue.lower = takeInt(1, 9);
            }
            take(Tokens.STEM);
            cue.stem = takeInt(0, STEMS - 1);
        }

        private void readFade(Cue cue) {
            cue.stem = takeInt(0, STEMS - 1);
            take(Tokens.FROM);
            readTime(cue, false);
            take(Tokens.TO);
            readTime(cue, true);
            take(Tokens.GAIN);
            cue.gain = takeInt(0, MAX_GAIN);
            take(Tokens.COMMA);
            cue.lastGain = takeInt(0, MAX_GAIN);
        }

        private void readDip(Cue cue) {
            cue.stem = takeInt(0, STEMS - 1);
            take(Tokens.UNDER);
            cue.under = takeInt(0, STEMS - 1);
            take(Tokens.BY);
            cue.by = takeInt(0, MAX_GAIN);
            take(Tokens.HOLD);
            cue.hold = takeInt(0, MAX_FRAMES);
        }

        private void readTaps(Cue cue) {
            cue.stem = takeInt(0, STEMS - 1);
            take(Tokens.OF);
            readWeight(cue);
            for (int step = 0; step < Cue.MAX_WEIGHTS && fault == 0 && kind == Tokens.COMMA; step++) {
                take(Tokens.COMMA);
                readWeight(cue);
            }
        }

        private void readWeight(Cue cue) {
            if (kind == Tokens.INT && cue.tapCount >= Cue.MAX_WEIGHTS) {
                fail(ROOM);
            }
            put(cue.weights, cue.tapCount, takeInt(0, MAX_GAIN));
            cue.tapCount++;
        }

        private void readUse(Cue cue) {
            cue.number = blockOf(tokens.valueOf(next));
            if (cue.number == NONE) {
                blame(UNKNOWN, next);
            }
            take(Tokens.NAME);
            take(Tokens.AT);
            readTime(cue, false);
        }

        private void readTime(Cue cue, boolean isEnd) {
            int mark = NONE;
            int frame = 0;
            if (kind == Tokens.MARK) {
                take(Tokens.MARK);
                mark = takeInt(0, MARKS - 1);
                if (kind == Tokens.PLUS || kind == Tokens.MINUS) {
                    int sign = kind == Tokens.PLUS ? 1 : -1;
                    take(kind);
                    frame = sign * takeInt(0, MAX_FRAMES);
                }
            } else {
                frame = takeInt(0, MAX_FRAMES);
            }
            if (isEnd) {
                cue.endMark = mark;
                cue.endFrame = frame;
            } else {
                cue.mark = mark;
                cue.frame = frame;
            }
        }

        /* Only after a text without fault that is no RULES. */
        private void fill(Sheet sheet) {
            putIn(this, sheet, blocks, NONE, 0, 0);
        }

        /* A block uses only blocks ahead of it: no deeper than there are parts. */
        private static void putIn(Reader from, Sheet sheet, int part, int byMark, int byFrame, int depth) {
            if (depth > MAX_BLOCKS) {
                return;
            }
            int count = at(from.cueCounts, part);
            for (int k = 0; k < count; k++) {
                Cue cue = from.cueAt(part, k);
                if (cue != null && cue.kind != Cue.USE) {
                    sheet.add(cue, byMark, byFrame);
                } else if (cue != null && at(from.totals, cue.number) > 0) {
                    // blocks without CUES are left out: uses of them within one another may be millions
                    int mark = cue.mark == NONE ? byMark : cue.mark;
                    int frame = cue.mark == NONE ? byFrame + cue.frame : cue.frame;
                    putIn(from, sheet, cue.number, mark, frame, depth + 1);
                }
            }
        }

        private void readRules() {
            draft.empty();
            take(Tokens.RULES);
            for (int step = 0; step <= Rules.MAX_RULES && fault == 0 && isRule(kind); step++) {
                if (draft.ruleCount >= Rules.MAX_RULES) {
                    fail(ROOM);
                } else if (kind == Tokens.RIGHT) {
                    readRight();
                } else {
                    readLoud();
                }
                take(Tokens.SEMICOLON);
            }
            take(Tokens.END);
        }

        private static boolean isRule(int kind) {
            return kind == Tokens.RIGHT || kind == Tokens.LOUD;
        }

        private void readLoud() {
            take(Tokens.LOUD);
            int hundreds = takeInt(0, MAX_VALUE);
            take(Tokens.IN);
            int width = takeInt(1, MAX_FRAMES);
            draft.beginRule();
            draft.endLoud(hundreds, width);
        }

        private void readRight() {
            take(Tokens.RIGHT);
            draft.beginRule();
            readSum();
            draft.endSum();
            if (kind == Tokens.IF) {
                take(Tokens.IF);
                readCondition();
            }
            draft.endRight();
        }

        /* What waits for its right side is joined as soon as that is there, 'and' ahead of 'or'. */
        private void readCondition() {
            boolean afterOr = false;
            boolean afterAnd = false;
            boolean more = true;
            for (int step = 0; step <= Tokens.MAX_TOKENS && fault == 0 && more; step++) {
                boolean negated = takeNots();
                readSum();
                int relation = takeRelation();
                readSum();
                emitLiteral(relation, negated);
                if (afterAnd) {
                    draft.emit(Rules.CODES + Tokens.AND);
                }
                afterAnd = kind == Tokens.AND;
                if (!afterAnd && afterOr) {
                    draft.emit(Rules.CODES + Tokens.OR);
                    afterOr = false;
                }
                afterOr |= kind == Tokens.OR;
                more = kind == Tokens.AND || kind == Tokens.OR;
                if (more) {
                    take(kind);
                }
            }
        }

        private boolean takeNots() {
            boolean negated = false;
            for (int step = 0; step <= Tokens.MAX_TOKENS && fault == 0 && kind == Tokens.NOT; step++) {
                take(Tokens.NOT);
                negated = !negated;
            }
            return negated;
        }

        private int takeRelation() {
            int relation = kind;
            if (relation < Tokens.SAME || relation > Tokens.AT_MOST) {
                fail(SYNTAX);
            }
            take(relation);
            return relation;
        }

        private void emitLiteral(int relation, boolean negated) {
            draft.emit(Rules.CODES + relation);
            if (negated) {
                draft.emit(Rules.CODES + Tokens.NOT);
            }
        }

        /* An E, turned to the order in which it is worked out: operands first. */
        private void readSum() {
            int open = 0;
            boolean wantsUnit = true;
            boolean more = true;
            waitingCount = 0;
            for (int step = 0; step <= Tokens.MAX_TOKENS && fault == 0 && more; step++) {
                int wanted = kind;
                if (wantsUnit && kind == Tokens.OPEN) {
                    open++;
                    hold(kind);
                } else if (wantsUnit) {
                    boolean isVariable = kind >= Tokens.SECONDS && kind <= Tokens.HEARD;
                    draft.emit(isVariable ? Rules.CODES + kind : (int) tokens.valueOf(next));
                    wanted = isVariable ? kind : Tokens.INT;
                    wantsUnit = false;
                } else if (kind == Tokens.CLOSE && open > 0) {
                    release(1);
                    waitingCount--;
                    open--;
                } else if (kind >= Tokens.PLUS && kind <= Tokens.OVER) {
                    release(rank(kind));
                    hold(kind);
                    wantsUnit = true;
                } else {
                    more = false;
                }
                if (open > MAX_NESTED) {
                    fail(ROOM);
                } else if (more) {
                    take(wanted);
                }
            }
            if (open > 0) {
                fail(SYNTAX);
            }
            release(1);
        }

        private static int rank(int sign) {
            if (sign == Tokens.OPEN) {
                return 0;
            }
            return sign == Tokens.TIMES || sign == Tokens.OVER ? 2 : 1;
        }

        private void hold(int sign) {
            put(waiting, waitingCount, sign);
            waitingCount++;
        }

        private void release(int least) {
            while (waitingCount > 0 && rank(at(waiting, waitingCount - 1)) >= least) {
                waitingCount--;
                draft.emit(Rules.CODES + at(waiting, waitingCount));
            }
        }
    }

    /* THE RULES, each as INTS, variables and signs in the order in which they are worked out. */
    private static final class Rules {
        private static final int MAX_RULES = 12;
        /* What is added to a TOKEN's kind, so that it is no INT. */
        private static final int CODES = 10000;

        private int ruleCount = 0;
        private final int[] code = new int[2 * Tokens.MAX_TOKENS];
        private int codeLength = 0;
        private final int[] starts = new int[MAX_RULES];
        private final int[] middles = new int[MAX_RULES];
        private final int[] ends = new int[MAX_RULES];
        private final int[] hundreds = new int[MAX_RULES];
        /* 0 of a right rule. */
        private final int[] widths = new int[MAX_RULES];
        private final int[] variables = new int[5];
        private final int[] stack = new int[64];
        private int height = 0;
        private boolean broken = false;

        private void empty() {
            ruleCount = 0;
            codeLength = 0;
        }

        private void emit(int value) {
            if (codeLength >= 0 && codeLength < code.length) {
                code[codeLength] = value;
                codeLength++;
            }
        }

        private void beginRule() {
            put(starts, ruleCount, codeLength);
        }

        private void endSum() {
            put(middles, ruleCount, codeLength);
        }

        private void endRight() {
            put(ends, ruleCount, codeLength);
            put(widths, ruleCount, 0);
            ruleCount++;
        }

        private void endLoud(int m, int w) {
            put(hundreds, ruleCount, m);
            put(widths, ruleCount, w);
            ruleCount++;
        }

        private int firstLoud() {
            for (int i = 0; i < ruleCount; i++) {
                if (at(widths, i) > 0) {
                    return i;
                }
            }
            return NONE;
        }

        private int hundredsOf(int rule) {
            return at(hundreds, rule);
        }

        private int widthOf(int rule) {
            return at(widths, rule);
        }

        private void set(int variable, int value) {
            put(variables, variable - Tokens.SECONDS, value);
        }

        /* The E of the first right RULE that holds; 0 without. */
        private int firstRight() {
            for (int i = 0; i < ruleCount; i++) {
                if (at(widths, i) == 0) {
                    broken = false;
                    int answer = work(at(starts, i), at(middles, i));
                    boolean bare = at(middles, i) == at(ends, i);
                    boolean holds = bare || work(at(middles, i), at(ends, i)) != 0;
                    if (holds && !broken) {
                        return answer;
                    }
                }
            }
            return 0;
        }

        private int work(int start, int end) {
            height = 0;
            for (int i = start; i < end; i++) {
                step(at(code, i));
            }
            return pop();
        }

        private void step(int value) {
            int kind = value - CODES;
            if (kind < 0) {
                push(value);
            } else if (kind >= Tokens.SECONDS) {
                push(at(variables, kind - Tokens.SECONDS));
            } else if (kind == Tokens.NOT) {
                push(pop() == 0 ? 1 : 0);
            } else {
                int right = pop();
                int left = pop();
                push(join(kind, left, right));
            }
        }

        private void push(int value) {
            put(stack, height, value);
            height++;
        }

        private int pop() {
            height = Math.max(0, height - 1);
            return at(stack, height);
        }

        private int join(int kind, int left, int right) {
            switch (kind) {
                case Tokens.PLUS:
                    return left + right;
                case Tokens.MINUS:
                    return left - right;
                case Tokens.TIMES:
                    return left * right;
                case Tokens.OVER:
                    return divide(left, right);
                case Tokens.SAME:
                    return left == right ? 1 : 0;
                case Tokens.OTHER:
                    return left != right ? 1 : 0;
                case Tokens.LESS:
                    return left < right ? 1 : 0;
                case Tokens.AT_MOST:
                    return left <= right ? 1 : 0;
                case Tokens.AND:
                    return left & right;
                default:
                    return left | right;
            }
        }

        private int divide(int left, int right) {
            if (right == 0) {
                broken = true;
                return 0;
            }
            return left / right;
        }
    }

    /* The MIX of a SHEET in its own EDITION and in later ones. */
    private static final class Mixer {
        private static final int ABSENT = -1000000;
        private static final int TAME_LAYS = 8;

        private final Bank bank;
        private final Picture picture;
        private final View view = new View();
        /* What each lay takes from its SOUND, ahead of its gain; ABSENT where it is not HEARD. */
        private final int[] rows = new int[MAX_CUES * MAX_SAMPLES];
        /* Bits of the STEMS of which a lay is HEARD. */
        private final int[] heardStems = new int[MAX_SAMPLES];
        private final int[] faders = new int[STEMS * MAX_SAMPLES];
        private final long[] stems = new long[STEMS * MAX_SAMPLES];
        private final int[] mix = new int[MAX_SAMPLES];
        private int length = 0;

        private Mixer(Bank bank, Picture picture) {
            this.bank = bank;
            this.picture = picture;
        }

        private int mixInto(int[] samples, Sheet sheet, int edition) {
            prepare(sheet);
            blend(sheet, 0);
            int size = 4 * picture.sizeOf(edition);
            for (int t = 0; t < size; t++) {
                int frame = picture.cameFrom(edition, t / 4, sheet.edition);
                put(samples, t, frame == NONE ? 0 : at(mix, 4 * frame + t % 4));
            }
            return size;
        }

        private int fewestHalved(Sheet sheet, int width, int most) {
            prepare(sheet);
            int lays = Math.min(TAME_LAYS, countLays(sheet));
            for (int size = 0; size <= lays; size++) {
                // the first lay is the highest bit here, so that of one size the first comes first
                for (int order = (1 << lays) - 1; order >= 0; order--) {
                    int halved = mirrored(order, lays);
                    if (Integer.bitCount(order) == size && holds(sheet, halved, width, most)) {
                        return halved;
                    }
                }
            }
            return REFUSED;
        }

        private static int mirrored(int bits, int width) {
            int other = 0;
            for (int i = 0; i < width; i++) {
                other = other << 1 | (bits >>> i) & 1;
            }
            return other;
        }

        private boolean holds(Sheet sheet, int halved, int width, int most) {
            blend(sheet, halved);
            return loudest(width) <= most;
        }

        private static int countLays(Sheet sheet) {
            int lays = 0;
            for (int k = 0; k < sheet.count; k++) {
                Cue cue = sheet.cueAt(k);
                lays += cue != null && cue.kind == Cue.LAY ? 1 : 0;
            }
            return lays;
        }

        private int loudOfSound(int sound, int width) {
            view.aim(bank, sound);
            length = Math.min(view.size, MAX_SAMPLES);
            for (int t = 0; t < length; t++) {
                put(mix, t, view.sampleAt(t));
            }
            return loudest(width);
        }

        private int loudest(int width) {
            int span = 4 * width;
            int sum = 0;
            int best = 0;
            for (int t = 0; t < length; t++) {
                sum += Math.abs(at(mix, t));
                if (t >= span) {
                    sum -= Math.abs(at(mix, t - span));
                }
                if (t + 1 >= span && (t + 1 - span) % 4 == 0) {
                    best = Math.max(best, sum);
                }
            }
            return length < span ? sum : best;
        }

        /* All that stays the same whichever lays are at half their gain. */
        private void prepare(Sheet sheet) {
            length = 4 * picture.sizeOf(sheet.edition);
            clear(heardStems, 0);
            clear(faders, 100);
            for (int k = 0; k < sheet.count; k++) {
                Cue cue = sheet.cueAt(k);
                if (cue != null && cue.kind == Cue.LAY) {
                    spread(cue, k, length);
                    noteHeard(cue, k);
                } else if (cue != null && cue.kind == Cue.FADE) {
                    turnFader(cue);
                }
            }
        }

        private void noteHeard(Cue cue, int row) {
            for (int t = 0; t < length; t++) {
                if (at(rows, row * MAX_SAMPLES + t) != ABSENT) {
                    put(heardStems, t, at(heardStems, t) | 1 << cue.stem);
                }
            }
        }

        /* A row of what a lay takes from its SOUND. */
        private void spread(Cue cue, int row, int size) {
            Sound sound = bank.get(cue.number);
            view.aim(bank, cue.number);
            boolean goesRound = sound != null && sound.kind == Sound.LOOP;
            int begin = 4 * bank.frameNow(cue.mark, cue.frame);
            int span = cue.span == NONE ? View.FAR : 4 * cue.span;
            for (int t = 0; t < size; t++) {
                int value = ABSENT;
                if (t >= begin && t - begin < span && cue.lower > 0) {
                    int i = 4 * cue.from + (t - begin) * cue.upper / cue.lower;
                    i = goesRound ? aroundLoop(sound, i) : i;
                    value = i < view.size ? view.sampleAt(i) : ABSENT;
                }
                put(rows, row * MAX_SAMPLES + t, value);
            }
        }

        private static int aroundLoop(Sound loop, int i) {
            int round = loop.end - loop.first;
            return i < loop.end || round <= 0 ? i : loop.first + (i - loop.first) % round;
        }

        private int taken(int row, int t) {
            return at(rows, row * MAX_SAMPLES + t);
        }

        private boolean isHeard(int row, int t) {
            return taken(row, t) != ABSENT;
        }

        private static int given(int taken, int gain) {
            return taken == ABSENT ? 0 : taken * gain / 100;
        }

        private void turnFader(Cue fade) {
            int begin = 4 * bank.frameNow(fade.mark, fade.frame);
            int end = 4 * bank.frameNow(fade.endMark, fade.endFrame);
            int span = end - begin;
            for (int t = Math.max(0, begin); t < length; t++) {
                int gain = fade.lastGain;
                if (span > 0 && t < end) {
                    gain = fade.gain + (fade.lastGain - fade.gain) * (t - begin) / span;
                }
                put(faders, fade.stem * MAX_SAMPLES + t, gain);
            }
        }

        private void blend(Sheet sheet, int halved) {
            for (int stem = 0; stem < STEMS; stem++) {
                clearStem(stem * MAX_SAMPLES);
            }
            addLays(sheet, halved);
            for (int stem = 0; stem < STEMS; stem++) {
                turnDown(stem * MAX_SAMPLES);
            }
            for (int k = 0; k < sheet.count; k++) {
                dip(sheet.cueAt(k));
            }
            int most = MAX_VALUE;
            for (int k = 0; k < sheet.count; k++) {
                Cue cue = sheet.cueAt(k);
                tap(cue);
                most = cue != null && cue.kind == Cue.CLIP ? cue.number : most;
            }
            for (int t = 0; t < length; t++) {
                long sum = at(stems, t) + at(stems, MAX_SAMPLES + t) + at(stems, 2 * MAX_SAMPLES + t);
                put(mix, t, (int) Math.max(-most, Math.min(most, sum)));
            }
        }

        private void clearStem(int stem) {
            for (int t = 0; t < length; t++) {
                put(stems, stem + t, 0L);
            }
        }

        private void turnDown(int stem) {
            for (int t = 0; t < length; t++) {
                put(stems, stem + t, at(stems, stem + t) * at(faders, stem + t) / 100);
            }
        }

        private void addLays(Sheet sheet, int halved) {
            int lay = 0;
            for (int k = 0; k < sheet.count; k++) {
                Cue cue = sheet.cueAt(k);
                if (cue != null && cue.kind == Cue.LAY) {
                    boolean half = lay < TAME_LAYS && ((halved >>> lay) & 1) != 0;
                    addLay(cue.stem * MAX_SAMPLES, k, half ? cue.gain / 2 : cue.gain);
                    lay++;
                }
            }
        }

        private void addLay(int stem, int row, int gain) {
            for (int t = 0; t < length; t++) {
                put(stems, stem + t, at(stems, stem + t) + given(taken(row, t), gain));
            }
        }

        private void dip(Cue cue) {
            if (cue == null || cue.kind != Cue.DIP) {
                return;
            }
            int left = Math.max(0, 100 - cue.by);
            int lastHeard = -View.FAR;
            for (int t = 0; t < length; t++) {
                if (((at(heardStems, t) >>> cue.under) & 1) != 0) {
                    lastHeard = t;
                }
                if (t - lastHeard <= 4 * cue.hold) {
                    int i = cue.stem * MAX_SAMPLES + t;
                    put(stems, i, at(stems, i) * left / 100);
                }
            }
        }

        /* From the end on, as a SAMPLE needs those ahead of it as they were. */
        private void tap(Cue cue) {
            if (cue == null || cue.kind != Cue.TAPS) {
                return;
            }
            for (int t = length - 1; t >= 0; t--) {
                long sum = 0;
                for (int back = 0; back < cue.tapCount && back <= t; back++) {
                    sum += at(stems, cue.stem * MAX_SAMPLES + t - back) * at(cue.weights, back);
                }
                put(stems, cue.stem * MAX_SAMPLES + t, sum / 100);
            }
        }
    }

    /* Where lays and music go in later EDITIONS, fades that quarrel, lines that fit. */
    private static final class Tracer {
        private static final int MOVED = 0;
        private static final int PARTED = 1;
        private static final int GONE = 2;
        private static final int OPEN = 3;

        private final Bank bank;
        private final Picture picture;
        private final Mixer mixer;
        /* 1 for a FRAME of the SHEET's EDITION that is asked for. */
        private final int[] sought = new int[MAX_FRAMES];
        private final int[] hits = new int[MAX_FRAMES];
        private int shift = 0;
        private int stretch = 10;
        private int unmet = 0;

        private Tracer(Bank bank, Picture picture, Mixer mixer) {
            this.bank = bank;
            this.picture = picture;
            this.mixer = mixer;
        }

        private void seekHeard(int own, Cue cue) {
            int size = 4 * picture.sizeOf(own);
            clear(sought, 0);
            mixer.spread(cue, 0, size);
            for (int t = 0; t < size; t++) {
                if (mixer.isHeard(0, t)) {
                    put(sought, t / 4, 1);
                }
            }
        }

        private boolean isSought(int own, int edition, int frame) {
            int from = picture.cameFrom(edition, frame, own);
            return from != NONE && at(sought, from) != 0;
        }

        private int firstFrameOf(int own, Cue cue, int edition) {
            seekHeard(own, cue);
            int size = picture.sizeOf(edition);
            for (int frame = 0; frame < size; frame++) {
                if (isSought(own, edition, frame)) {
                    return frame;
                }
            }
            return NONE;
        }

        private int fateOf(int own, Cue cue, int edition) {
            seekHeard(own, cue);
            clear(hits, 0);
            int found = 0;
            int lastFound = NONE;
            int lastFrom = NONE;
            boolean inRow = true;
            boolean open = false;
            int size = picture.sizeOf(edition);
            for (int frame = 0; frame < size; frame++) {
                if (isSought(own, edition, frame)) {
                    int from = picture.cameFrom(edition, frame, own);
                    open |= at(hits, from) != 0;
                    put(hits, from, 1);
                    inRow &= found == 0 || frame == lastFound + 1 && from == nextSought(lastFrom);
                    lastFound = frame;
                    lastFrom = from;
                    found++;
                }
            }
            if (open) {
                return OPEN;
            }
            if (found == 0) {
                return GONE;
            }
            return inRow && found == countSought() ? MOVED : PARTED;
        }

        private int nextSought(int frame) {
            for (int f = frame + 1; f < MAX_FRAMES; f++) {
                if (at(sought, f) != 0) {
                    return f;
                }
            }
            return NONE;
        }

        private int countSought() {
            int count = 0;
            for (int f = 0; f < MAX_FRAMES; f++) {
                count += at(sought, f);
            }
            return count;
        }

        private boolean isOfMusic(int number, int music) {
            int of = number;
            for (int step = 0; step < MAX_SOUNDS && of != music; step++) {
                Sound sound = bank.getKind(of, Sound.TRIMMED);
                of = sound == null ? NONE : sound.source;
            }
            return of == music;
        }

        private boolean isLayOfMusic(Cue cue, int music) {
            return cue != null && cue.kind == Cue.LAY && isOfMusic(cue.number, music);
        }

        private int laysOfMusic(Sheet sheet, int music) {
            int lays = 0;
            for (int k = 0; k < sheet.count; k++) {
                lays += isLayOfMusic(sheet.cueAt(k), music) ? 1 : 0;
            }
            return lays;
        }

        private int framesOfMusic(Sheet sheet, int music, int edition) {
            clear(sought, 0);
            for (int k = 0; k < sheet.count; k++) {
                Cue cue = sheet.cueAt(k);
                if (isLayOfMusic(cue, music)) {
                    seekGiven(sheet.edition, cue);
                }
            }
            int count = 0;
            int size = picture.sizeOf(edition);
            for (int frame = 0; frame < size; frame++) {
                count += isSought(sheet.edition, edition, frame) ? 1 : 0;
            }
            return count;
        }

        private void seekGiven(int own, Cue cue) {
            int size = 4 * picture.sizeOf(own);
            mixer.spread(cue, 0, size);
            for (int t = 0; t < size; t++) {
                if (Mixer.given(mixer.taken(0, t), cue.gain) != 0) {
                    put(sought, t / 4, 1);
                }
            }
        }

        private int quarrelOf(Sheet sheet, int i) {
            int left = i;
            for (int j = 0; j < sheet.count; j++) {
                for (int k = j + 1; k < sheet.count; k++) {
                    if (doQuarrel(sheet.cueAt(j), sheet.cueAt(k))) {
                        if (left == 0) {
                            return 64 * j + k;
                        }
                        left--;
                    }
                }
            }
            return NONE;
        }

        private boolean doQuarrel(Cue one, Cue other) {
            if (one == null || other == null || one.kind != Cue.FADE || other.kind != Cue.FADE || one.stem != other.stem) {
                return false;
            }
            int oneBegin = bank.frameNow(one.mark, one.frame);
            int otherBegin = bank.frameNow(other.mark, other.frame);
            if (oneBegin > otherBegin) {
                return oneBegin < bank.frameNow(other.endMark, other.endFrame);
            }
            return otherBegin < bank.frameNow(one.endMark, one.endFrame);
        }

        private int fitOf(Sound one, Sound other, int slack, int what) {
            unmet = MAX_MOUTHS + 1;
            for (int size = 0; size <= 24; size++) {
                tryFit(one, other, slack, -size);
                tryFit(one, other, slack, size);
            }
            switch (what) {
                case 0:
                    return unmet;
                case 1:
                    return shift;
                case 2:
                    return stretch;
                default:
                    return NONE;
            }
        }

        private void tryFit(Sound one, Sound other, int slack, int by) {
            tryStretch(one, other, slack, by, 10);
            tryStretch(one, other, slack, by, 9);
            tryStretch(one, other, slack, by, 11);
        }

        private void tryStretch(Sound one, Sound other, int slack, int by, int tenths) {
            int lacking = 0;
            for (int i = 0; i < one.mouthCount; i++) {
                int stands = by + at(one.mouths, i) * tenths / 10;
                lacking += isMet(other, stands, slack) ? 0 : 1;
            }
            if (lacking < unmet) {
                unmet = lacking;
                shift = by;
                stretch = tenths;
            }
        }

        private static boolean isMet(Sound other, int stands, int slack) {
            for (int i = 0; i < other.mouthCount; i++) {
                if (Math.abs(at(other.mouths, i) - stands) <= slack) {
                    return true;
                }
            }
            return false;
        }
    }
}
