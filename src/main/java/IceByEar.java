import java.util.Arrays;

/** Ice by ear. All rows are made with the object and used again: no later call makes an object. */
public final class IceByEar {
    public static final int BAD = -1, NOT = -2, FULL = -3, NONE = -4, NULL = -11, CAST = -12, INDEX = -13, SIZE = -14;

    private static final int SIDE = 8, SQUARES = 64;
    private static final int UP = 0, LEFT = 1, RIGHT = 2, DOWN = 3, SIDES = 4, NOWHERE = -1;
    private static final long FIRST_COLUMN = 0x0101010101010101L, LAST_COLUMN = FIRST_COLUMN << (SIDE - 1);

    private static final int THICKNESS = 0, KIND = 1, SNOW = 2, SPRING = 3, PLANKS = 4, BEARING = 5, PITCH = 6;
    private static final int TRAITS = 5, GREY = 0, HEALED = 4;
    private static final int[] TRAIT_MOST = {99, 4, 9, 1, 3};
    private static final int[] PART = {8, 5, 3, 2, 7};
    private static final int PLANK_BEARS = 60, PLANKS_MOST = 3;

    private static final int SLEIGHS_MOST = 6, PLACES_MOST = 24, HEARERS = 4, ALL_HEARERS = 15, HEARD_MOST = 16;
    private static final int TAPE_MOST = 140, FAULT = -20, END = -1;
    private static final int SHEETS = 4, ITEMS_MOST = 24, NOTHING = -1, WHETHER = 0, BYTES = 1, LONGS = 2;

    private final Scene now = new Scene();
    private final Scene kept = new Scene();
    private boolean isKept = false;
    private final Tape tape = new Tape();
    private final Drafts drafts = new Drafts();
    private final Roads roads = new Roads();
    private final Spans spans = new Spans();
    private final Sheet[] sheets = new Sheet[SHEETS];

    public IceByEar() {
        for (int i = 0; i < SHEETS; i++) {
            sheets[i] = new Sheet();
        }
    }

    // ---- 1 the ice

    public int make(int square, int what, int v) {
        if (!isSquare(square) || !isWithin(what, 0, TRAITS - 1) || !isWithin(v, 0, TRAIT_MOST[what])) {
            return BAD;
        }
        int was = now.ice.trait(square, what);
        now.ice.put(square, what, v);
        return was;
    }

    public int told(int square, int what) {
        if (!isSquare(square) || !isWithin(what, 0, PITCH)) {
            return BAD;
        }
        if (what == BEARING) {
            return now.ice.bearing(square);
        }
        return what == PITCH ? now.ice.pitch(square) : now.ice.trait(square, what);
    }

    public int days(int cold, int n) {
        if (!isWithin(cold, 0, 9) || !isWithin(n, 1, 30)) {
            return BAD;
        }
        for (int day = 0; day < n; day++) {
            now.ice.freeze(cold);
        }
        return now.ice.total(THICKNESS);
    }

    public int set(int what, int v) {
        if (!isWithin(what, 0, 1) || !isWithin(v, 0, 99)) {
            return BAD;
        }
        int was = what == 0 ? now.crackBelow : now.steep;
        if (what == 0) {
            now.crackBelow = v;
        } else {
            now.steep = v;
        }
        return was;
    }

    public int type(long w, int n) {
        if (!isWithin(n, 1, 8)) {
            return BAD;
        }
        for (int i = 0; i < n; i++) {
            if (!isWithin(byteOf(w, i), 32, 126)) {
                return BAD;
            }
        }
        if (tape.size + n > TAPE_MOST) {
            return FULL;
        }
        for (int i = n - 1; i >= 0; i--) {
            tape.add(byteOf(w, i));
        }
        return tape.size;
    }

    public int ice() {
        int answer = drafts.readIce(tape);
        if (answer > 0) {
            drafts.layIce(now.ice);
        }
        tape.size = 0;
        return answer;
    }

    public int sleighs() {
        int answer = drafts.readTrain(tape);
        if (answer > 0) {
            now.train.copy(drafts.train);
        }
        tape.size = 0;
        return answer;
    }

    public int count(int what) {
        switch (what) {
            case 0: return now.train.size;
            case 1: return now.way.size;
            case 2: return now.ears.size;
            case 3: return Long.bitCount(now.ice.thinnerThan(1));
            case 4: return now.ice.total(PLANKS);
            default: return BAD;
        }
    }

    // ---- 2 sleighs, ways

    public int sleigh(int load, int pace, int start) {
        if (!isLoad(load) || !isPace(pace) || !isWithin(start, 0, 99)) {
            return BAD;
        }
        if (now.train.size >= SLEIGHS_MOST) {
            return FULL;
        }
        now.train.add(load, pace, start);
        return now.train.size - 1;
    }

    public int home() {
        int were = now.train.size;
        now.train.size = 0;
        return were;
    }

    public int step(int square) {
        if (!isSquare(square)) {
            return BAD;
        }
        Way way = now.way;
        if (way.size > 0 && !areNext(way.squares[way.size - 1], square)) {
            return NOT;
        }
        if (way.size >= PLACES_MOST) {
            return FULL;
        }
        way.add(square);
        return way.size;
    }

    public int back(int n) {
        if (!isWithin(n, 1, PLACES_MOST)) {
            return BAD;
        }
        if (n > now.way.size) {
            return NOT;
        }
        now.way.size -= n;
        return now.way.size;
    }

    public int need(int sleigh, int place) {
        if (!isWithin(sleigh, 0, now.train.size - 1) || !isWithin(place, 0, now.way.size - 1)) {
            return BAD;
        }
        return now.train.meets(sleigh, place) ? NOT : now.train.weight(sleigh, place);
    }

    public int breaks(int what) {
        if (!isWithin(what, 0, 3)) {
            return BAD;
        }
        int who = now.firstToBreak();
        if (who < 0) {
            return NONE;
        }
        int place = now.breakingPlace(who);
        int square = now.way.squares[place];
        switch (what) {
            case 0: return who;
            case 1: return square;
            case 2: return now.train.minute(who, place);
            default: return Long.bitCount(now.crackedFrom(square));
        }
    }

    public long cracks(int square) {
        return isSquare(square) ? now.crackedFrom(square) : BAD;
    }

    public int crack(int square) {
        if (!isSquare(square)) {
            return BAD;
        }
        long cracked = now.crackedFrom(square);
        now.ice.melt(cracked);
        return Long.bitCount(cracked);
    }

    public int road(int from, int to, int load, int pace, int i) {
        if (!isRoadAsked(from, to, load, pace) || !isWithin(i, -1, SQUARES - 1)) {
            return BAD;
        }
        roads.weigh(now.ice);
        int squares = roads.length(from, to, weightAlone(load, pace));
        if (squares == NONE || i >= squares) {
            return NONE;
        }
        return i < 0 ? squares : roads.walk(from, i);
    }

    public int most(int from, int to, int pace) {
        if (!isSquare(from) || !isSquare(to) || !isPace(pace)) {
            return BAD;
        }
        roads.weigh(now.ice);
        int fits = 0, tooMuch = 100;
        // 0 to 100 is halved down to 1 by seven looks.
        for (int look = 0; look < 7 && tooMuch - fits > 1; look++) {
            int load = (fits + tooMuch) / 2;
            if (roads.length(from, to, weightAlone(load, pace)) == NONE) {
                tooMuch = load;
            } else {
                fits = load;
            }
        }
        return fits > 0 ? fits : NONE;
    }

    public int planks(int from, int to, int load, int pace) {
        if (!isRoadAsked(from, to, load, pace)) {
            return BAD;
        }
        return roads.fewestLaid(now.ice, from, to, weightAlone(load, pace));
    }

    // ---- 3 hearers

    public int slip(int hearer, int v) {
        if (!isWithin(hearer, 0, HEARERS - 1) || !isWithin(v, 0, 99)) {
            return BAD;
        }
        int was = now.ears.slips[hearer];
        now.ears.slips[hearer] = v;
        return was;
    }

    public int hear(int hearer, int square, int pitch) {
        if (!isWithin(hearer, 0, HEARERS - 1) || !isSquare(square) || !isWithin(pitch, 90, 9999)) {
            return BAD;
        }
        if (now.ears.size >= HEARD_MOST) {
            return FULL;
        }
        now.ears.add(hearer, square, pitch);
        return now.ears.size;
    }

    public int deaf() {
        int were = now.ears.size;
        now.ears.size = 0;
        return were;
    }

    public int span(int hearers, int square, int what) {
        if (!isWithin(hearers, 0, ALL_HEARERS) || !isSquare(square) || !isWithin(what, 0, 1)) {
            return BAD;
        }
        if (!spans.find(now, hearers)) {
            return NONE;
        }
        return what == 0 ? spans.least[square] : spans.greatest[square];
    }

    public int safe(int from, int to, int load, int pace) {
        if (!isRoadAsked(from, to, load, pace)) {
            return BAD;
        }
        if (!spans.find(now, ALL_HEARERS)) {
            return NOT;
        }
        roads.weighAt(now.ice, spans.least);
        return roads.length(from, to, weightAlone(load, pace));
    }

    public int drum() {
        return spans.find(now, ALL_HEARERS) ? spans.widest() : NONE;
    }

    public int liars() {
        for (int few = 0; few <= HEARERS; few++) {
            int found = 0, liars = 0;
            for (int set = 0; set <= ALL_HEARERS; set++) {
                if (Integer.bitCount(set) == few && spans.find(now, ALL_HEARERS & ~set)) {
                    found++;
                    liars = set;
                }
            }
            if (found > 0) {
                return found == 1 ? liars : NONE;
            }
        }
        return NONE;
    }

    public int image() {
        kept.copy(now);
        isKept = true;
        return 1;
    }

    public int restore() {
        if (!isKept) {
            return NONE;
        }
        now.copy(kept);
        return 1;
    }

    // ---- 4 sheets

    public int go(int sheet, int lane, int from, int n) {
        if (!isSheet(sheet) || !isWithin(lane, BYTES, LONGS) || !isWithin(n, 1, PLACES_MOST)) {
            return BAD;
        }
        Sheet row = sheets[sheet];
        int refusal = row.refusal(lane, from, n);
        if (refusal != 0) {
            return refusal;
        }
        if (!row.isWay(from, n)) {
            return NOT;
        }
        now.way.size = 0;
        for (int i = 0; i < n; i++) {
            now.way.add((int) row.value(from + i));
        }
        return n;
    }

    public int film(int row, int sheet, int from) {
        if (!isWithin(row, 0, SIDE - 1) || !isSheet(sheet)) {
            return BAD;
        }
        int refusal = sheets[sheet].refusal(WHETHER, from, SIDE);
        if (refusal != 0) {
            return refusal;
        }
        int have = 0;
        for (int column = 0; column < SIDE; column++) {
            int thickness = now.ice.trait(row * SIDE + column, THICKNESS);
            sheets[sheet].put(from + column, thickness);
            have += thickness > 0 ? 1 : 0;
        }
        return have;
    }

    public int sheet(int sheet, int lane, int n) {
        if (!isSheet(sheet) || !isWithin(lane, WHETHER, LONGS) || n > ITEMS_MOST) {
            return BAD;
        }
        if (n < 0) {
            return SIZE;
        }
        sheets[sheet].renew(lane, n);
        return n;
    }

    public int drop(int sheet) {
        if (!isSheet(sheet)) {
            return BAD;
        }
        if (sheets[sheet].lane == NOTHING) {
            return NULL;
        }
        sheets[sheet].lane = NOTHING;
        return sheets[sheet].size;
    }

    public int item(int sheet, int lane, int i, long v) {
        if (!isSheet(sheet) || !isWithin(lane, WHETHER, LONGS)) {
            return BAD;
        }
        int refusal = sheets[sheet].refusal(lane, i, 1);
        if (refusal != 0) {
            return refusal;
        }
        sheets[sheet].put(i, v);
        return 1;
    }

    // ---- what all of them use

    private static boolean isWithin(long v, int least, int most) {
        return v >= least && v <= most;
    }

    private static boolean isSquare(long v) {
        return isWithin(v, 0, SQUARES - 1);
    }

    private static boolean isLoad(int v) {
        return isWithin(v, 1, 99);
    }

    private static boolean isPace(int v) {
        return isWithin(v, 1, 9);
    }

    private static boolean isSheet(int v) {
        return isWithin(v, 0, SHEETS - 1);
    }

    private static boolean isRoadAsked(int from, int to, int load, int pace) {
        return isSquare(from) && isSquare(to) && isLoad(load) && isPace(pace);
    }

    private static int byteOf(long w, int i) {
        return (int) (w >>> (8 * i)) & 255;
    }

    private static int weightAlone(int load, int pace) {
        return load * (10 + pace) / 10;
    }

    private static int beside(int square, int side) {
        switch (side) {
            case UP: return square >= SIDE ? square - SIDE : NOWHERE;
            case LEFT: return square % SIDE > 0 ? square - 1 : NOWHERE;
            case RIGHT: return square % SIDE < SIDE - 1 ? square + 1 : NOWHERE;
            case DOWN: return square < SQUARES - SIDE ? square + SIDE : NOWHERE;
            default: return NOWHERE;
        }
    }

    private static long allBeside(long set) {
        return set >>> SIDE | set << SIDE | (set & ~FIRST_COLUMN) >>> 1 | (set & ~LAST_COLUMN) << 1;
    }

    private static boolean areNext(int one, int other) {
        return (allBeside(1L << one) >>> other & 1L) != 0L;
    }

    /** What an IMAGE keeps: all but the sheets and the tape. */
    private static final class Scene {
        final Ice ice = new Ice();
        final Train train = new Train();
        final Way way = new Way();
        final Ears ears = new Ears();
        int crackBelow = 20;
        int steep = 10;

        void copy(Scene other) {
            ice.copy(other.ice);
            train.copy(other.train);
            way.copy(other.way);
            ears.copy(other.ears);
            crackBelow = other.crackBelow;
            steep = other.steep;
        }

        long crackedFrom(int square) {
            long weak = ice.thinnerThan(crackBelow);
            long cracked = 1L << square;
            // Each round but the last adds a square, so that there are no more rounds than squares.
            for (int round = 0; round < SQUARES; round++) {
                long more = cracked | allBeside(cracked) & weak;
                if (more == cracked) {
                    break;
                }
                cracked = more;
            }
            return cracked;
        }

        /** Minutes only grow along the way: who breaks first does so at the first place where they break at all. */
        int firstToBreak() {
            int who = -1, minute = 0;
            for (int sleigh = 0; sleigh < train.size; sleigh++) {
                int place = breakingPlace(sleigh);
                if (place >= 0 && (who < 0 || train.minute(sleigh, place) < minute)) {
                    who = sleigh;
                    minute = train.minute(sleigh, place);
                }
            }
            return who;
        }

        int breakingPlace(int sleigh) {
            for (int place = 0; place < way.size; place++) {
                if (train.meets(sleigh, place) || train.weight(sleigh, place) > ice.bearing(way.squares[place])) {
                    return place;
                }
            }
            return NOWHERE;
        }
    }

    private static final class Ice {
        final int[] traits = new int[TRAITS * SQUARES];

        Ice() {
            Arrays.fill(traits, THICKNESS * SQUARES, (THICKNESS + 1) * SQUARES, 30);
        }

        void copy(Ice other) {
            System.arraycopy(other.traits, 0, traits, 0, traits.length);
        }

        int trait(int square, int what) {
            return traits[what * SQUARES + square];
        }

        void put(int square, int what, int v) {
            traits[what * SQUARES + square] = v;
        }

        int total(int what) {
            int sum = 0;
            for (int square = 0; square < SQUARES; square++) {
                sum += trait(square, what);
            }
            return sum;
        }

        int bareBearing(int square, int thickness) {
            return thickness * thickness * PART[trait(square, KIND)] / 80;
        }

        int bearingAt(int square, int thickness) {
            return bareBearing(square, thickness) + PLANK_BEARS * trait(square, PLANKS);
        }

        int bearing(int square) {
            return bearingAt(square, trait(square, THICKNESS));
        }

        int pitch(int square) {
            int thickness = trait(square, THICKNESS);
            return thickness > 0 ? 9000 / thickness + 7 * trait(square, KIND) : NONE;
        }

        void freeze(int cold) {
            for (int square = 0; square < SQUARES; square++) {
                int was = trait(square, THICKNESS);
                int grown = was + cold * (10 - trait(square, SNOW)) / 10 - 3 * trait(square, SPRING);
                int is = Math.max(0, Math.min(99, grown));
                put(square, THICKNESS, is);
                if (was == 0 && is > 0) {
                    put(square, KIND, GREY);
                }
            }
        }

        long thinnerThan(int thickness) {
            long set = 0L;
            for (int square = 0; square < SQUARES; square++) {
                if (trait(square, THICKNESS) < thickness) {
                    set |= 1L << square;
                }
            }
            return set;
        }

        void melt(long set) {
            for (int square = 0; square < SQUARES; square++) {
                if ((set >>> square & 1L) != 0L) {
                    put(square, THICKNESS, 0);
                }
            }
        }
    }

    private static final class Train {
        final int[] loads = new int[SLEIGHS_MOST];
        final int[] paces = new int[SLEIGHS_MOST];
        final int[] starts = new int[SLEIGHS_MOST];
        int size = 0;

        void copy(Train other) {
            System.arraycopy(other.loads, 0, loads, 0, SLEIGHS_MOST);
            System.arraycopy(other.paces, 0, paces, 0, SLEIGHS_MOST);
            System.arraycopy(other.starts, 0, starts, 0, SLEIGHS_MOST);
            size = other.size;
        }

        void add(int load, int pace, int start) {
            loads[size] = load;
            paces[size] = pace;
            starts[size] = start;
            size++;
        }

        int minute(int sleigh, int place) {
            return starts[sleigh] + place * (10 - paces[sleigh]);
        }

        boolean meets(int sleigh, int place) {
            for (int other = 0; other < sleigh; other++) {
                if (minute(other, place) == minute(sleigh, place)) {
                    return true;
                }
            }
            return false;
        }

        int weight(int sleigh, int place) {
            int sum = weightAlone(loads[sleigh], paces[sleigh]);
            for (int other = 0; other < size; other++) {
                int earlier = minute(sleigh, place) - minute(other, place);
                if (earlier > 0) {
                    sum += loads[other] * paces[other] / (10 * earlier);
                }
            }
            return sum;
        }
    }

    private static final class Way {
        final int[] squares = new int[PLACES_MOST];
        int size = 0;

        void copy(Way other) {
            System.arraycopy(other.squares, 0, squares, 0, PLACES_MOST);
            size = other.size;
        }

        void add(int square) {
            squares[size] = square;
            size++;
        }
    }

    private static final class Ears {
        final int[] slips = new int[HEARERS];
        final int[] hearers = new int[HEARD_MOST];
        final int[] squares = new int[HEARD_MOST];
        final int[] pitches = new int[HEARD_MOST];
        int size = 0;

        void copy(Ears other) {
            System.arraycopy(other.slips, 0, slips, 0, HEARERS);
            System.arraycopy(other.hearers, 0, hearers, 0, HEARD_MOST);
            System.arraycopy(other.squares, 0, squares, 0, HEARD_MOST);
            System.arraycopy(other.pitches, 0, pitches, 0, HEARD_MOST);
            size = other.size;
        }

        void add(int hearer, int square, int pitch) {
            hearers[size] = hearer;
            squares[size] = square;
            pitches[size] = pitch;
            size++;
        }
    }

    /** Ways over the squares that are open, by the costs of the squares (both ends are of a way). */
    private static final class Roads {
        static final int CLOSED = -1;
        final int[] bears = new int[SQUARES];
        final int[] costs = new int[SQUARES];
        final int[] sums = new int[SQUARES];
        final int[] line = new int[2 * SQUARES];

        void weigh(Ice ice) {
            for (int square = 0; square < SQUARES; square++) {
                bears[square] = ice.bearing(square);
            }
        }

        void weighAt(Ice ice, int[] thickness) {
            for (int square = 0; square < SQUARES; square++) {
                bears[square] = ice.bearingAt(square, thickness[square]);
            }
        }

        int length(int from, int to, int weight) {
            for (int square = 0; square < SQUARES; square++) {
                costs[square] = bears[square] >= weight ? 1 : CLOSED;
            }
            // The sums tell how far the end is, so that walk() can go by them from the start.
            spread(to);
            return sums[from] == CLOSED ? NONE : sums[from];
        }

        /** Planks laid already come off everywhere, also where a square bears the weight by them alone. */
        int fewestLaid(Ice ice, int from, int to, int weight) {
            for (int square = 0; square < SQUARES; square++) {
                int bare = ice.bareBearing(square, ice.trait(square, THICKNESS));
                int cost = bare + PLANKS_MOST * PLANK_BEARS >= weight ? 1 : CLOSED;
                costs[square] = bare >= weight ? 0 : cost;
            }
            spread(from);
            return sums[to] == CLOSED ? NONE : sums[to];
        }

        /**
         * A square of cost 0 goes to the line's head, one of cost 1 to its tail: the line stays in the order
         * of the sums, so that the first sum of a square is its least, and each joins the line only once.
         */
        void spread(int start) {
            Arrays.fill(sums, CLOSED);
            if (costs[start] == CLOSED) {
                return;
            }
            int head = SQUARES, tail = SQUARES + 1;
            line[head] = start;
            sums[start] = costs[start];
            for (int round = 0; round < SQUARES && head < tail; round++) {
                int square = line[head];
                head++;
                for (int side = 0; side < SIDES; side++) {
                    int other = beside(square, side);
                    if (other == NOWHERE || costs[other] == CLOSED || sums[other] != CLOSED) {
                        continue;
                    }
                    sums[other] = sums[square] + costs[other];
                    if (costs[other] == 0) {
                        head--;
                        line[head] = other;
                    } else {
                        line[tail] = other;
                        tail++;
                    }
                }
            }
        }

        int walk(int from, int steps) {
            int square = from;
            for (int i = 0; i < steps; i++) {
                square = nearer(square);
            }
            return square;
        }

        int nearer(int square) {
            for (int side = 0; side < SIDES; side++) {
                int other = beside(square, side);
                if (other != NOWHERE && sums[other] == sums[square] - 1) {
                    return other;
                }
            }
            return square;
        }
    }

    private static final class Spans {
        final int[] least = new int[SQUARES];
        final int[] greatest = new int[SQUARES];

        boolean find(Scene scene, int hearers) {
            Arrays.fill(least, 1);
            Arrays.fill(greatest, 99);
            for (int heard = 0; heard < scene.ears.size; heard++) {
                if ((hearers >> scene.ears.hearers[heard] & 1) != 0) {
                    fit(scene, heard);
                }
            }
            narrow(scene.steep);
            return areOpen();
        }

        /** Thicker ice never sings higher: what fits lies between a least and a greatest thickness. */
        void fit(Scene scene, int heard) {
            int square = scene.ears.squares[heard];
            int slip = scene.ears.slips[scene.ears.hearers[heard]];
            int middle = scene.ears.pitches[heard] - 7 * scene.ice.trait(square, KIND);
            int highest = middle + slip, lowest = middle - slip;
            // 9000 by t, cut, is at most h if t is above 9000 by (h and 1), and at least l if t is up to 9000 by l.
            int thin = highest >= 0 ? 9000 / (highest + 1) + 1 : 100;
            int thick = lowest > 0 ? 9000 / lowest : 99;
            least[square] = Math.max(least[square], thin);
            greatest[square] = Math.min(greatest[square], thick);
        }

        /** On a whole board one pass down and one up carry each end along a shortest way to every square. */
        void narrow(int steep) {
            for (int square = 0; square < SQUARES; square++) {
                draw(square, beside(square, UP), steep);
                draw(square, beside(square, LEFT), steep);
            }
            for (int square = SQUARES - 1; square >= 0; square--) {
                draw(square, beside(square, DOWN), steep);
                draw(square, beside(square, RIGHT), steep);
            }
        }

        void draw(int square, int other, int steep) {
            if (other != NOWHERE) {
                least[square] = Math.max(least[square], least[other] - steep);
                greatest[square] = Math.min(greatest[square], greatest[other] + steep);
            }
        }

        boolean areOpen() {
            for (int square = 0; square < SQUARES; square++) {
                if (least[square] > greatest[square]) {
                    return false;
                }
            }
            return true;
        }

        int widest() {
            int best = 0;
            for (int square = 1; square < SQUARES; square++) {
                if (greatest[square] - least[square] > greatest[best] - least[best]) {
                    best = square;
                }
            }
            return best;
        }
    }

    /** The reading place stands on a byte that is no blank, or at the end; a fault is told of that place. */
    private static final class Tape {
        final byte[] bytes = new byte[TAPE_MOST];
        int size = 0;
        int at = 0;

        void add(int sign) {
            bytes[size] = (byte) sign;
            size++;
        }

        void rewind() {
            at = 0;
            skipBlanks();
        }

        void skipBlanks() {
            while (at < size && bytes[at] == ' ') {
                at++;
            }
        }

        int sign() {
            return at < size ? bytes[at] : END;
        }

        boolean isDigit() {
            return isWithin(sign(), '0', '9');
        }

        void pass() {
            at++;
            skipBlanks();
        }

        boolean takes(char sign) {
            boolean is = sign() == sign;
            if (is) {
                pass();
            }
            return is;
        }

        int fault() {
            return FAULT - at;
        }

        /** NONE, if it may not be: then the place is back at its first byte, where its fault is told. */
        int number(int least, int most) {
            int first = at, value = 0;
            while (at < size && isDigit()) {
                value = Math.min(1000, 10 * value + sign() - '0');
                at++;
            }
            if (at == first || !isWithin(value, least, most)) {
                at = first;
                return NONE;
            }
            skipBlanks();
            return value;
        }
    }

    /** What a text tells stands here until the whole text is known to be without fault. */
    private static final class Drafts {
        static final int UNTOLD = -1;
        final int[] thickness = new int[SQUARES];
        final int[] kinds = new int[SQUARES];
        final Train train = new Train();

        int readIce(Tape tape) {
            Arrays.fill(thickness, UNTOLD);
            tape.rewind();
            int told = 0;
            for (int row = 0; row < SIDE; row++) {
                int squares = readRow(tape, row);
                told += squares;
                if (squares > 0 && tape.sign() == END) {
                    return told;
                }
                if (squares == 0 || row == SIDE - 1 || !tape.takes('/')) {
                    break;
                }
            }
            return tape.fault();
        }

        int readRow(Tape tape, int row) {
            int squares = 0;
            while (squares < SIDE && tape.isDigit()) {
                int square = row * SIDE + squares;
                thickness[square] = 10 * (tape.sign() - '0');
                tape.pass();
                kinds[square] = readKind(tape);
                squares++;
            }
            return squares;
        }

        int readKind(Tape tape) {
            for (int kind = GREY + 1; kind <= HEALED; kind++) {
                if (tape.takes("glcoe".charAt(kind))) {
                    return kind;
                }
            }
            return GREY;
        }

        void layIce(Ice ice) {
            for (int square = 0; square < SQUARES; square++) {
                if (thickness[square] != UNTOLD) {
                    ice.put(square, THICKNESS, thickness[square]);
                    ice.put(square, KIND, kinds[square]);
                    ice.put(square, SNOW, 0);
                    ice.put(square, SPRING, 0);
                    ice.put(square, PLANKS, 0);
                }
            }
        }

        int readTrain(Tape tape) {
            train.size = 0;
            tape.rewind();
            for (int i = 0; i < SLEIGHS_MOST; i++) {
                if (!readSleigh(tape)) {
                    break;
                }
                if (tape.sign() == END) {
                    return train.size;
                }
                if (i == SLEIGHS_MOST - 1 || !tape.takes(',')) {
                    break;
                }
            }
            return tape.fault();
        }

        boolean readSleigh(Tape tape) {
            int load = tape.number(1, 99);
            if (load == NONE || !tape.takes('p') || !isWithin(tape.sign(), '1', '9')) {
                return false;
            }
            int pace = tape.sign() - '0';
            tape.pass();
            int start = tape.takes('m') ? tape.number(0, 99) : 0;
            if (start == NONE) {
                return false;
            }
            train.add(load, pace, start);
            return true;
        }
    }

    /** A row for each lane stands ready; the lane says which of them the sheet holds, if any. */
    private static final class Sheet {
        final boolean[] whether = new boolean[ITEMS_MOST];
        final byte[] bytes = new byte[ITEMS_MOST];
        final long[] longs = new long[ITEMS_MOST];
        int lane = NOTHING;
        int size = 0;

        void renew(int newLane, int n) {
            lane = newLane;
            size = n;
            for (int i = 0; i < n; i++) {
                put(i, 0L);
            }
        }

        int refusal(int asLane, int from, int n) {
            if (lane == NOTHING) {
                return NULL;
            }
            if (lane != asLane) {
                return CAST;
            }
            return from < 0 || from > size - n ? INDEX : 0;
        }

        void put(int i, long v) {
            if (lane == WHETHER) {
                whether[i] = v != 0L;
            } else if (lane == BYTES) {
                bytes[i] = (byte) v;
            } else {
                longs[i] = v;
            }
        }

        long value(int i) {
            return lane == BYTES ? bytes[i] : longs[i];
        }

        boolean isWay(int from, int n) {
            for (int i = from; i < from + n; i++) {
                if (!isSquare(value(i)) || i > from && !areNext((int) value(i - 1), (int) value(i))) {
                    return false;
                }
            }
            return true;
        }
    }
}
