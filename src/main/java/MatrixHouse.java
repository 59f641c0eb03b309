/**
 * A house that keeps sound on tape and discs: its tapes, the sides that are cut of them, what is
 * pressed and sold, the discs that are looked at one by one, and what its artists are due.
 */
public final class MatrixHouse {
    public static final int NONE = -1;
    public static final int GOOD = 0, SHEDS = 1, BAKED = 2, GONE = 3;

    private static final int ARTISTS = 6;
    private static final int VAULTS = 4;
    private static final int MOST_TAPES = 30;
    private static final int MOST_SPANS = 20;
    private static final int LONGEST_SESSION = 900;
    private static final int BAKED_HOLDS_DAYS = 30;
    private static final int HEARD_PER_TAKE = 1000;
    private static final int MOST_ON_PROGRAM = 6;
    private static final int SECONDS_BETWEEN_TAPES = 3;
    private static final int MOST_SIDES = 10;
    private static final int LOUDEST = 5;
    private static final int MOST_ON_SIDE = 1500;
    private static final int LESS_FOR_A_LEVEL = 150;
    private static final int MOTHERS = 3;
    private static final int STAMPERS_OF_A_MOTHER = 4;
    private static final int MOST_PRESSED = 500;
    private static final int MOST_SALES = 100;
    private static final int DISCS_OF_A_RATE = 100;
    private static final int MOST_DISCS = 20;
    private static final int PARTS = 8;
    private static final int HEAVIEST_NEEDLE = 3;
    private static final int MOST_TIMES = 50;
    private static final int NOISE_OF_A_SCRATCH = 5;
    private static final int WEAR_OF_ONE_NOISE = 16;
    private static final int MOST_REPAIRS = 20;
    private static final int HIGHEST_RATE = 9999;
    private static final int HIGHEST_ADVANCE = 999999;
    private static final int MOST_DAYS_AT_ONCE = 999;
    private static final int LAST_DAY = 9999;

    private int day;
    private final Tape[] tapes = new Tape[MOST_TAPES];
    private int tapeCount;
    private final Program program = new Program();
    private final Side[] sides = new Side[MOST_SIDES];
    private int sideCount;
    private final Disc[] discs = new Disc[MOST_DISCS];
    private int discCount;
    private final SoundFile soundFile = new SoundFile();
    private final Royalties royalties = new Royalties();

    public MatrixHouse() {
    }

    // ---- tapes

    public int session(int artist, int seconds, int vault)
            throws IndexOutOfBoundsException, IllegalArgumentException, IllegalStateException {
        requireArtist(artist);
        requireVault(vault);
        if (seconds < 1 || seconds > LONGEST_SESSION) {
            throw new IllegalArgumentException("seconds out of range");
        }
        int number = nextTape();
        tapes[number] = new Tape(number, vault, artist, seconds);
        tapeCount++;
        return number;
    }

    public int splice(int tape, int from, int to, int other, int vault)
            throws IndexOutOfBoundsException, IllegalArgumentException, IllegalStateException {
        Tape source = tapeAt(tape);
        Tape tail = other == NONE ? null : tapeAt(other);
        requireVault(vault);
        if (from < 0 || to <= from || to > source.length) {
            throw new IllegalArgumentException("no such part of the tape");
        }
        requirePlayable(source);
        int spans = source.spansBetween(from, to);
        if (tail != null) {
            requirePlayable(tail);
            spans += tail.spans;
        }
        if (spans > MOST_SPANS) {
            throw new IllegalStateException("too many spans");
        }
        int number = nextTape();
        tapes[number] = new Tape(number, vault, source, from, to, tail);
        tapeCount++;
        return number;
    }

    public void shed(int tape) throws IndexOutOfBoundsException, IllegalStateException {
        Tape shedding = tapeAt(tape);
        if (shedding.how != GOOD) {
            throw new IllegalStateException("the tape is not good");
        }
        shedding.how = SHEDS;
    }

    public int bake(int tape) throws IndexOutOfBoundsException, IllegalStateException {
        Tape baked = tapeAt(tape);
        if (baked.how != SHEDS) {
            throw new IllegalStateException("the tape is not one that sheds");
        }
        baked.how = BAKED;
        baked.bakedOn = day;
        return day + BAKED_HOLDS_DAYS;
    }

    public int fire(int vault) throws IndexOutOfBoundsException {
        requireVault(vault);
        int gone = 0;
        for (Tape tape : tapes) {
            if (tape != null && tape.vault == vault && tape.how != GONE) {
                tape.how = GONE;
                gone++;
            }
        }
        return gone;
    }

    public int tapeIs(int tape, int what) throws IndexOutOfBoundsException, IllegalArgumentException {
        Tape asked = tapeAt(tape);
        switch (what) {
            case 0:
                return asked.how;
            case 1:
                return asked.isPlayable(day) ? 1 : 0;
            case 2:
                return asked.length;
            case 3:
                return asked.generation;
            case 4:
                return asked.vault;
            case 5:
                return asked.spans;
            default:
                throw new IllegalArgumentException("what out of range");
        }
    }

    public int heard(int tape, int second) throws IndexOutOfBoundsException, IllegalArgumentException {
        Tape asked = tapeAt(tape);
        if (second < 0) {
            throw new IllegalArgumentException("second below 0");
        }
        return asked.heardAt(second);
    }

    public int takes(int tape) throws IndexOutOfBoundsException {
        return tapeAt(tape).takeSet();
    }

    public int takesAnew(int tape) throws IndexOutOfBoundsException {
        return takesByMaking(tapeAt(tape));
    }

    public boolean isLost(int take) throws IndexOutOfBoundsException {
        if (tapeAt(take).source != null) {
            throw new IndexOutOfBoundsException("no such take: the tape is a splice");
        }
        for (Tape tape : tapes) {
            if (tape != null && tape.how != GONE && has(tape.takeSet(), take)) {
                return false;
            }
        }
        for (Side side : sides) {
            if (side != null && has(side.takeSet, take) && side.isAnySold()) {
                return false;
            }
        }
        return true;
    }

    // ---- sides and pressings

    public int add(int tape) throws IndexOutOfBoundsException, IllegalStateException {
        Tape added = tapeAt(tape);
        requirePlayable(added);
        if (program.count >= MOST_ON_PROGRAM) {
            throw new IllegalStateException("the program is full");
        }
        program.append(added);
        return program.count;
    }

    public int clear() {
        int had = program.count;
        program.empty();
        return had;
    }

    public int cut(int level) throws IllegalArgumentException, IllegalStateException {
        if (level < 1 || level > LOUDEST) {
            throw new IllegalArgumentException("level out of range");
        }
        if (program.count == 0 || !program.isPlayable(day)) {
            throw new IllegalStateException("the program is empty or not playable");
        }
        if (program.length() > MOST_ON_SIDE - LESS_FOR_A_LEVEL * level) {
            throw new IllegalStateException("the program is too long");
        }
        int number = sideCount;
        if (number < 0 || number >= sides.length) {
            throw new IllegalStateException("there are all sides");
        }
        sides[number] = sideOfProgram();
        sideCount++;
        program.empty();
        return number;
    }

    public int seconds(int side, int artist) throws IndexOutOfBoundsException {
        Side asked = sideAt(side);
        if (artist == NONE) {
            return asked.allSeconds;
        }
        requireArtist(artist);
        return asked.secondsOf(artist);
    }

    public int stamper(int side, int mother, int number)
            throws IndexOutOfBoundsException, IllegalStateException {
        Side owner = sideAt(side);
        int place = placeOf(mother, number);
        if (owner.stamperAt(place) != null) {
            throw new IllegalStateException("the stamper is made");
        }
        if (!hasWhatItNeeds(owner, place)) {
            throw new IllegalStateException("the one ahead is not made");
        }
        owner.make(place, day);
        return owner.stampersMade;
    }

    public int press(int side, int mother, int number, int discs)
            throws IndexOutOfBoundsException, IllegalArgumentException, IllegalStateException {
        Stamper used = sideAt(side).stamperAt(placeOf(mother, number));
        requireDiscCount(discs);
        if (used == null || used.pressed + discs > MOST_PRESSED) {
            throw new IllegalStateException("the stamper is not good for so many");
        }
        if (used.pressed == 0) {
            used.firstPressing = day;
        }
        used.latestPressing = day;
        used.pressed += discs;
        return used.pressed;
    }

    public int stamperIs(int side, int mother, int number, int what)
            throws IndexOutOfBoundsException, IllegalArgumentException {
        Stamper asked = sideAt(side).stamperAt(placeOf(mother, number));
        switch (what) {
            case 0:
                return asked == null ? NONE : asked.madeOn;
            case 1:
                return asked == null ? 0 : asked.pressed;
            case 2:
                return asked == null ? 0 : asked.stillSold();
            case 3:
                return asked == null ? NONE : asked.firstPressing;
            case 4:
                return asked == null ? NONE : asked.latestPressing;
            default:
                throw new IllegalArgumentException("what out of range");
        }
    }

    public int sell(int side, int mother, int number, int discs)
            throws IndexOutOfBoundsException, IllegalArgumentException, IllegalStateException {
        Side owner = sideAt(side);
        Stamper sold = owner.stamperAt(placeOf(mother, number));
        requireDiscCount(discs);
        if (sold == null || sold.neverSold() < discs) {
            throw new IllegalStateException("there are not so many to be sold");
        }
        if (royalties.isFull()) {
            throw new IllegalStateException("there were all sales");
        }
        sold.everSold += discs;
        royalties.book(new Sale(owner, sold, royalties.rates.clone(), discs));
        return sold.stillSold();
    }

    public int back(int side, int mother, int number, int discs)
            throws IndexOutOfBoundsException, IllegalArgumentException, IllegalStateException {
        Stamper returned = sideAt(side).stamperAt(placeOf(mother, number));
        requireDiscCount(discs);
        if (returned == null || returned.unnamed() < discs) {
            throw new IllegalStateException("there are not so many that can come back");
        }
        returned.cameBack += discs;
        royalties.takeBack(returned, discs);
        return returned.stillSold();
    }

    // ---- discs and files

    public int disc(int side, int mother, int number)
            throws IndexOutOfBoundsException, IllegalStateException {
        Side owner = sideAt(side);
        Stamper of = owner.stamperAt(placeOf(mother, number));
        if (of == null || of.unnamed() < 1) {
            throw new IllegalStateException("all that are sold are named");
        }
        int named = discCount;
        if (named < 0 || named >= discs.length) {
            throw new IllegalStateException("there are all discs");
        }
        discs[named] = new Disc(owner);
        discCount++;
        of.named++;
        return named;
    }

    public int play(int disc, int needle, int times)
            throws IndexOutOfBoundsException, IllegalArgumentException {
        Disc played = discAt(disc);
        if (needle < 1 || needle > HEAVIEST_NEEDLE || times < 1 || times > MOST_TIMES) {
            throw new IllegalArgumentException("needle or times out of range");
        }
        played.wear += needle * times;
        return played.wear;
    }

    public int scratch(int disc, int part) throws IndexOutOfBoundsException {
        Disc scratched = discAt(disc);
        requirePart(part);
        scratched.addScratch(part);
        return scratched.noiseOf(part);
    }

    public int noise(int disc, int part) throws IndexOutOfBoundsException {
        Disc asked = discAt(disc);
        requirePart(part);
        return asked.noiseOf(part);
    }

    public int grade(int disc) throws IndexOutOfBoundsException {
        int noise = discAt(disc).noiseOfAll();
        if (noise == 0) {
            return 0;
        }
        if (noise < 20) {
            return 1;
        }
        if (noise < 80) {
            return 2;
        }
        return noise < 200 ? 3 : 4;
    }

    public int join(int discs, int part)
            throws IndexOutOfBoundsException, IllegalArgumentException, IllegalStateException {
        requirePart(part);
        requireJoinable(discs);
        return leastNoisy(discs, part);
    }

    public int file(int discs) throws IllegalArgumentException, IllegalStateException {
        requireJoinable(discs);
        soundFile.begin();
        int all = 0;
        for (int part = 0; part < PARTS; part++) {
            int noise = discAt(leastNoisy(discs, part)).noiseOf(part);
            soundFile.write(part, noise);
            all += noise;
        }
        return all;
    }

    public int repair(int part) throws IndexOutOfBoundsException, IllegalStateException {
        requirePart(part);
        if (!soundFile.isMade || soundFile.repairs >= MOST_REPAIRS) {
            throw new IllegalStateException("the file is empty or has all repairs");
        }
        return soundFile.halve(part);
    }

    public int undo() throws IllegalStateException {
        if (soundFile.repairs < 1) {
            throw new IllegalStateException("there is no repair");
        }
        return soundFile.takeBackLatest();
    }

    public int fileIs(int part) throws IndexOutOfBoundsException {
        requirePart(part);
        return soundFile.isMade ? soundFile.noiseOf(part) : NONE;
    }

    // ---- royalties

    public int contract(int artist, int rate, int advance)
            throws IndexOutOfBoundsException, IllegalArgumentException {
        requireArtist(artist);
        if (rate < 0 || rate > HIGHEST_RATE || advance < 0 || advance > HIGHEST_ADVANCE) {
            throw new IllegalArgumentException("rate or advance out of range");
        }
        royalties.rates[artist] = rate;
        royalties.advances[artist] += advance;
        royalties.balances[artist] -= advance;
        return royalties.balances[artist];
    }

    public int account(int artist) throws IndexOutOfBoundsException {
        requireArtist(artist);
        return royalties.balances[artist];
    }

    public int accountAnew(int artist) throws IndexOutOfBoundsException {
        requireArtist(artist);
        return royalties.dueOfAllSales(artist)
                - royalties.advances[artist] - royalties.paidOut[artist];
    }

    public int payOut(int artist) throws IndexOutOfBoundsException {
        requireArtist(artist);
        int cents = Math.max(royalties.balances[artist], 0);
        royalties.paidOut[artist] += cents;
        royalties.balances[artist] -= cents;
        return cents;
    }

    public int pass(int days) throws IllegalArgumentException, IllegalStateException {
        if (days < 1 || days > MOST_DAYS_AT_ONCE) {
            throw new IllegalArgumentException("days out of range");
        }
        if (day + days > LAST_DAY) {
            throw new IllegalStateException("time ends ahead of that");
        }
        day += days;
        return day;
    }

    // ---- what several calls need

    private static void requireArtist(int artist) {
        if (artist < 0 || artist >= ARTISTS) {
            throw new IndexOutOfBoundsException("no such artist");
        }
    }

    private static void requireVault(int vault) {
        if (vault < 0 || vault >= VAULTS) {
            throw new IndexOutOfBoundsException("no such vault");
        }
    }

    private static void requirePart(int part) {
        if (part < 0 || part >= PARTS) {
            throw new IndexOutOfBoundsException("no such part");
        }
    }

    private static void requireDiscCount(int discs) {
        if (discs < 1 || discs > MOST_PRESSED) {
            throw new IllegalArgumentException("discs out of range");
        }
    }

    private void requirePlayable(Tape tape) {
        if (!tape.isPlayable(day)) {
            throw new IllegalStateException("the tape is not playable");
        }
    }

    private Tape tapeAt(int number) {
        Tape tape = number < 0 || number >= tapes.length ? null : tapes[number];
        if (tape == null) {
            throw new IndexOutOfBoundsException("no such tape");
        }
        return tape;
    }

    private Side sideAt(int number) {
        Side side = number < 0 || number >= sides.length ? null : sides[number];
        if (side == null) {
            throw new IndexOutOfBoundsException("no such side");
        }
        return side;
    }

    private Disc discAt(int number) {
        Disc disc = number < 0 || number >= discs.length ? null : discs[number];
        if (disc == null) {
            throw new IndexOutOfBoundsException("no such disc");
        }
        return disc;
    }

    private int nextTape() {
        if (tapeCount < 0 || tapeCount >= tapes.length) {
            throw new IllegalStateException("there are all tapes");
        }
        return tapeCount;
    }

    private static boolean has(int set, int member) {
        return ((set >> member) & 1) == 1;
    }

    /**
     * The takes of a tape, second by second, each by way of the tapes of which it was made. Seconds
     * that go the same way, to the same take, are passed over: a long tape has far too many of them.
     */
    private static int takesByMaking(Tape whole) {
        int set = 0;
        int second = 0;
        while (second < whole.length) {
            Tape tape = whole;
            int at = second;
            int alike = whole.length - second;
            for (int depth = 0; depth < MOST_TAPES && tape.source != null; depth++) {
                int part = tape.sourceTo - tape.sourceFrom;
                if (at < part) {
                    alike = Math.min(alike, part - at);
                    at += tape.sourceFrom;
                    tape = tape.source;
                } else if (tape.tail != null) {
                    at -= part;
                    tape = tape.tail;
                }
            }
            set |= 1 << tape.number;
            second += Math.max(1, alike);
        }
        return set;
    }

    private Side sideOfProgram() {
        Side side = new Side();
        for (Tape tape : program.row) {
            if (tape != null) {
                for (int i = 0; i < tape.spans; i++) {
                    int take = tape.takeOf(i);
                    side.addSpan(take, tapeAt(take).artist, tape.lengthOf(i));
                }
            }
        }
        return side;
    }

    private static int placeOf(int mother, int number) {
        if (mother < 0 || mother >= MOTHERS || number < 0 || number >= STAMPERS_OF_A_MOTHER) {
            throw new IndexOutOfBoundsException("no such stamper");
        }
        return mother * STAMPERS_OF_A_MOTHER + number;
    }

    private static boolean hasWhatItNeeds(Side side, int place) {
        if (place == 0) {
            return true;
        }
        boolean isFirstOfMother = place % STAMPERS_OF_A_MOTHER == 0;
        int ahead = isFirstOfMother ? place - STAMPERS_OF_A_MOTHER : place - 1;
        return side.stamperAt(ahead) != null;
    }

    private void requireJoinable(int set) {
        int known = (1 << discCount) - 1;
        if (set == 0 || (set & ~known) != 0) {
            throw new IllegalArgumentException("not a set of discs");
        }
        Side side = null;
        for (int i = 0; i < discs.length; i++) {
            if (has(set, i)) {
                Side its = discAt(i).side;
                if (side != null && side != its) {
                    throw new IllegalStateException("discs of several sides");
                }
                side = its;
            }
        }
    }

    /** The disc of a set that has the least noise in a part; the lowest one of several. */
    private int leastNoisy(int set, int part) {
        int best = NONE;
        int least = 0;
        for (int i = 0; i < discs.length; i++) {
            if (has(set, i)) {
                int noise = discAt(i).noiseOf(part);
                if (best == NONE || noise < least) {
                    best = i;
                    least = noise;
                }
            }
        }
        return best;
    }

    /** A row of spans, how the tape that bears them is, and what it was made of. */
    private static final class Tape {
        final int number;
        final int vault;
        final int generation;
        /** NONE for a splice: its takes may be of several artists. */
        final int artist;
        /** What a splice was made of, a part of one tape and then another one; null without. */
        final Tape source;
        final int sourceFrom;
        final int sourceTo;
        final Tape tail;
        final int[] spanTakes = new int[MOST_SPANS];
        final int[] spanFroms = new int[MOST_SPANS];
        final int[] spanTos = new int[MOST_SPANS];
        int spans;
        int length;
        int how = GOOD;
        int bakedOn;

        Tape(int number, int vault, int artist, int seconds) {
            this.number = number;
            this.vault = vault;
            this.artist = artist;
            generation = 0;
            source = null;
            sourceFrom = 0;
            sourceTo = 0;
            tail = null;
            append(number, 0, seconds);
        }

        Tape(int number, int vault, Tape source, int from, int to, Tape tail) {
            this.number = number;
            this.vault = vault;
            artist = NONE;
            int before = tail == null ? 0 : tail.generation;
            generation = Math.max(source.generation, before) + 1;
            this.source = source;
            sourceFrom = from;
            sourceTo = to;
            this.tail = tail;
            copy(source, from, to);
            if (tail != null) {
                copy(tail, 0, tail.length);
            }
        }

        boolean isPlayable(int today) {
            return how == GOOD || (how == BAKED && today - bakedOn < BAKED_HOLDS_DAYS);
        }

        int takeOf(int span) {
            return isPlace(span) ? spanTakes[span] : NONE;
        }

        int lengthOf(int span) {
            return isPlace(span) ? spanTos[span] - spanFroms[span] : 0;
        }

        /** The second of its take with which a span begins. */
        private int fromOf(int span) {
            return isPlace(span) ? spanFroms[span] : 0;
        }

        private static boolean isPlace(int span) {
            return span >= 0 && span < MOST_SPANS;
        }

        int spansBetween(int from, int to) {
            int start = 0;
            int found = 0;
            for (int i = 0; i < spans; i++) {
                int end = start + lengthOf(i);
                if (start < to && end > from) {
                    found++;
                }
                start = end;
            }
            return found;
        }

        int heardAt(int second) {
            int start = 0;
            for (int i = 0; i < spans; i++) {
                int end = start + lengthOf(i);
                if (second < end) {
                    return HEARD_PER_TAKE * takeOf(i) + fromOf(i) + second - start;
                }
                start = end;
            }
            return NONE;
        }

        int takeSet() {
            int set = 0;
            for (int i = 0; i < spans; i++) {
                set |= 1 << takeOf(i);
            }
            return set;
        }

        /** Copies a part of a tape behind what is here; a span on its border is parted. */
        private void copy(Tape of, int from, int to) {
            int start = 0;
            for (int i = 0; i < of.spans; i++) {
                int first = Math.max(from - start, 0);
                int last = Math.min(to - start, of.lengthOf(i));
                if (first < last) {
                    append(of.takeOf(i), of.fromOf(i) + first, of.fromOf(i) + last);
                }
                start += of.lengthOf(i);
            }
        }

        private void append(int take, int from, int to) {
            if (isPlace(spans)) {
                spanTakes[spans] = take;
                spanFroms[spans] = from;
                spanTos[spans] = to;
                spans++;
                length += to - from;
            }
        }
    }

    /** The tapes of which the next side will be cut. */
    private static final class Program {
        final Tape[] row = new Tape[MOST_ON_PROGRAM];
        int count;

        void append(Tape tape) {
            if (count >= 0 && count < row.length) {
                row[count] = tape;
                count++;
            }
        }

        void empty() {
            for (int i = 0; i < row.length; i++) {
                row[i] = null;
            }
            count = 0;
        }

        boolean isPlayable(int today) {
            for (Tape tape : row) {
                if (tape != null && !tape.isPlayable(today)) {
                    return false;
                }
            }
            return true;
        }

        int length() {
            int length = 0;
            for (Tape tape : row) {
                if (tape != null) {
                    length += tape.length;
                }
            }
            return length + SECONDS_BETWEEN_TAPES * Math.max(count - 1, 0);
        }
    }

    /** What is on a side, by artists and takes, and the stampers of its matrix. */
    private static final class Side {
        private final int[] artistSeconds = new int[ARTISTS];
        /** By mothers, and of a mother by numbers; null where none is made. */
        private final Stamper[] stampers = new Stamper[MOTHERS * STAMPERS_OF_A_MOTHER];
        int stampersMade;
        int allSeconds;
        int takeSet;

        void addSpan(int take, int artist, int seconds) {
            if (artist >= 0 && artist < artistSeconds.length) {
                artistSeconds[artist] += seconds;
                allSeconds += seconds;
                takeSet |= 1 << take;
            }
        }

        int secondsOf(int artist) {
            return artist < 0 || artist >= artistSeconds.length ? 0 : artistSeconds[artist];
        }

        Stamper stamperAt(int place) {
            return place < 0 || place >= stampers.length ? null : stampers[place];
        }

        void make(int place, int today) {
            if (place >= 0 && place < stampers.length) {
                stampers[place] = new Stamper(today);
                stampersMade++;
            }
        }

        boolean isAnySold() {
            for (Stamper stamper : stampers) {
                if (stamper != null && stamper.stillSold() > 0) {
                    return true;
                }
            }
            return false;
        }
    }

    /** How many discs a stamper pressed, and what became of them. */
    private static final class Stamper {
        final int madeOn;
        int pressed;
        int firstPressing = NONE;
        int latestPressing = NONE;
        int everSold;
        int cameBack;
        int named;

        Stamper(int today) {
            madeOn = today;
        }

        int neverSold() {
            return pressed - everSold;
        }

        int stillSold() {
            return everSold - cameBack;
        }

        /** Those that are sold still, and not named as discs. */
        int unnamed() {
            return stillSold() - named;
        }
    }

    /** A disc that is named: its wear, and its scratches part by part. */
    private static final class Disc {
        final Side side;
        private final int[] scratches = new int[PARTS];
        int wear;

        Disc(Side side) {
            this.side = side;
        }

        void addScratch(int part) {
            if (part >= 0 && part < scratches.length) {
                scratches[part]++;
            }
        }

        int noiseOf(int part) {
            int scratched = part < 0 || part >= scratches.length ? 0 : scratches[part];
            return NOISE_OF_A_SCRATCH * scratched + wear * (part + 1) / WEAR_OF_ONE_NOISE;
        }

        int noiseOfAll() {
            int all = 0;
            for (int part = 0; part < PARTS; part++) {
                all += noiseOf(part);
            }
            return all;
        }
    }

    /** The file: the noise of its parts, and the repairs that can be undone. */
    private static final class SoundFile {
        boolean isMade;
        private final int[] partNoises = new int[PARTS];
        private final int[] repairedParts = new int[MOST_REPAIRS];
        private final int[] noisesAhead = new int[MOST_REPAIRS];
        int repairs;

        void begin() {
            isMade = true;
            repairs = 0;
        }

        void write(int part, int noise) {
            if (part >= 0 && part < partNoises.length) {
                partNoises[part] = noise;
            }
        }

        int noiseOf(int part) {
            return part < 0 || part >= partNoises.length ? NONE : partNoises[part];
        }

        int halve(int part) {
            int noise = noiseOf(part);
            if (repairs >= 0 && repairs < MOST_REPAIRS) {
                repairedParts[repairs] = part;
                noisesAhead[repairs] = noise;
                repairs++;
                write(part, noise / 2);
            }
            return noiseOf(part);
        }

        int takeBackLatest() {
            int latest = repairs - 1;
            if (latest < 0 || latest >= MOST_REPAIRS) {
                return NONE;
            }
            repairs = latest;
            write(repairedParts[latest], noisesAhead[latest]);
            return repairedParts[latest];
        }
    }

    /** A sale of discs of one stamper, at the rates that held then, and what is left of it. */
    private static final class Sale {
        final Side side;
        final Stamper stamper;
        private final int[] rates;
        int left;

        Sale(Side side, Stamper stamper, int[] rates, int discs) {
            this.side = side;
            this.stamper = stamper;
            this.rates = rates;
            left = discs;
        }

        int dueTo(int artist) {
            long whole = (long) DISCS_OF_A_RATE * side.allSeconds;
            if (whole < 1 || artist < 0 || artist >= rates.length) {
                return 0;
            }
            return (int) ((long) left * rates[artist] * side.secondsOf(artist) / whole);
        }
    }

    /** What holds for each artist, by its number, and all sales in the order of time. */
    private static final class Royalties {
        final int[] rates = new int[ARTISTS];
        final int[] advances = new int[ARTISTS];
        final int[] paidOut = new int[ARTISTS];
        final int[] balances = new int[ARTISTS];
        private final Sale[] sales = new Sale[MOST_SALES];
        private int saleCount;

        boolean isFull() {
            return saleCount >= sales.length;
        }

        void book(Sale sale) {
            if (saleCount >= 0 && saleCount < sales.length) {
                sales[saleCount] = sale;
                saleCount++;
                for (int artist = 0; artist < ARTISTS; artist++) {
                    balances[artist] += sale.dueTo(artist);
                }
            }
        }

        void takeBack(Stamper stamper, int discs) {
            int rest = discs;
            for (int i = sales.length - 1; i >= 0 && rest > 0; i--) {
                Sale sale = sales[i];
                if (sale != null && sale.stamper == stamper) {
                    int of = Math.min(rest, sale.left);
                    lessen(sale, of);
                    rest -= of;
                }
            }
        }

        /** What was due of the sale is put aside, and what is due of its rest put in its place. */
        private void lessen(Sale sale, int discs) {
            for (int artist = 0; artist < ARTISTS; artist++) {
                balances[artist] -= sale.dueTo(artist);
            }
            sale.left -= discs;
            for (int artist = 0; artist < ARTISTS; artist++) {
                balances[artist] += sale.dueTo(artist);
            }
        }

        int dueOfAllSales(int artist) {
            int due = 0;
            for (Sale sale : sales) {
                if (sale != null) {
                    due += sale.dueTo(artist);
                }
            }
            return due;
        }
    }
}
