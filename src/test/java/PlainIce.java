import java.util.ArrayList;
import java.util.Arrays;
import java.util.List;

/** The document's words taken one by one, with no thought of speed or room: what IceByEar is compared with. */
final class PlainIce {
    static final int BAD = -1, NOT = -2, FULL = -3, NONE = -4, NULL = -11, CAST = -12, INDEX = -13, SIZE = -14;

    private static final class State {
        int[][] squares = new int[64][5];
        List<int[]> sleighs = new ArrayList<>();
        List<Integer> way = new ArrayList<>();
        int[] slips = new int[4];
        List<int[]> heard = new ArrayList<>();
        int[] settings = {20, 10};

        State twin() {
            State t = new State();
            for (int i = 0; i < 64; i++) {
                t.squares[i] = squares[i].clone();
            }
            for (int[] s : sleighs) {
                t.sleighs.add(s.clone());
            }
            t.way.addAll(way);
            t.slips = slips.clone();
            for (int[] h : heard) {
                t.heard.add(h.clone());
            }
            t.settings = settings.clone();
            return t;
        }
    }

    private State st = new State();
    private State picture = null;
    private String tape = "";
    private final Object[] sheets = new Object[4];

    PlainIce() {
        for (int[] s : st.squares) {
            s[0] = 30;
        }
    }

    private static boolean out(long v, long least, long most) {
        return v < least || v > most;
    }

    private static boolean next(int a, int b) {
        return Math.abs(a / 8 - b / 8) + Math.abs(a % 8 - b % 8) == 1;
    }

    private static final int[] UP_LEFT_RIGHT_DOWN = {-8, -1, 1, 8};

    private int bears(int square, int thickness, int planks) {
        int part = new int[] {8, 5, 3, 2, 7}[st.squares[square][1]];
        return thickness * thickness * part / 80 + 60 * planks;
    }

    private int bears(int square) {
        return bears(square, st.squares[square][0], st.squares[square][4]);
    }

    int make(int square, int what, int v) {
        if (out(square, 0, 63) || out(what, 0, 4) || out(v, 0, new int[] {99, 4, 9, 1, 3}[what])) {
            return BAD;
        }
        int was = st.squares[square][what];
        st.squares[square][what] = v;
        return was;
    }

    int told(int square, int what) {
        if (out(square, 0, 63) || out(what, 0, 6)) {
            return BAD;
        }
        int[] s = st.squares[square];
        if (what == 5) {
            return bears(square);
        }
        if (what == 6) {
            return s[0] == 0 ? NONE : 9000 / s[0] + 7 * s[1];
        }
        return s[what];
    }

    int days(int cold, int n) {
        if (out(cold, 0, 9) || out(n, 1, 30)) {
            return BAD;
        }
        int all = 0;
        for (int[] s : st.squares) {
            for (int day = 0; day < n; day++) {
                int was = s[0];
                s[0] += cold * (10 - s[2]) / 10;
                if (s[3] == 1) {
                    s[0] -= 3;
                }
                if (s[0] < 0) {
                    s[0] = 0;
                }
                if (s[0] > 99) {
                    s[0] = 99;
                }
                if (was == 0 && s[0] != 0) {
                    s[1] = 0;
                }
            }
            all += s[0];
        }
        return all;
    }

    int set(int what, int v) {
        if (out(what, 0, 1) || out(v, 0, 99)) {
            return BAD;
        }
        int was = st.settings[what];
        st.settings[what] = v;
        return was;
    }

    int type(long w, int n) {
        if (out(n, 1, 8)) {
            return BAD;
        }
        String more = "";
        for (int i = n - 1; i >= 0; i--) {
            int b = (int) (w >> 8 * i & 0xFF);
            if (out(b, 32, 126)) {
                return BAD;
            }
            more += (char) b;
        }
        if (tape.length() + n > 140) {
            return FULL;
        }
        tape += more;
        return tape.length();
    }

    /** Byte by byte: which bytes may stand here is said by the rows and squares so far. */
    int ice() {
        String text = tape;
        tape = "";
        int[][] told = new int[64][];
        int row = 0, column = 0, squares = 0;
        boolean kindMayStand = false;
        for (int i = 0; i < text.length(); i++) {
            char c = text.charAt(i);
            if (c == ' ') {
                continue;
            }
            if (c >= '0' && c <= '9' && column < 8) {
                told[8 * row + column] = new int[] {10 * (c - '0'), 0, 0, 0, 0};
                column++;
                squares++;
                kindMayStand = true;
            } else if ("lcoe".indexOf(c) >= 0 && kindMayStand) {
                told[8 * row + column - 1][1] = 1 + "lcoe".indexOf(c);
                kindMayStand = false;
            } else if (c == '/' && column > 0 && row < 7) {
                row++;
                column = 0;
                kindMayStand = false;
            } else {
                return -20 - i;
            }
        }
        if (column == 0) {
            return -20 - text.length();
        }
        for (int i = 0; i < 64; i++) {
            if (told[i] != null) {
                st.squares[i] = told[i];
            }
        }
        return squares;
    }

    /** States: 0 load, 1 p, 2 pace, 3 m or a comma, 4 start, 5 a comma. */
    int sleighs() {
        String text = tape;
        tape = "";
        List<int[]> told = new ArrayList<>();
        int state = 0, i = 0;
        int[] one = new int[3];
        while (i < text.length()) {
            char c = text.charAt(i);
            if (c == ' ') {
                i++;
                continue;
            }
            boolean digit = c >= '0' && c <= '9';
            if ((state == 0 || state == 4) && digit) {
                int end = i;
                while (end < text.length() && Character.isDigit(text.charAt(end))) {
                    end++;
                }
                String plain = text.substring(i, end).replaceFirst("^0+", "");
                int v = plain.length() > 2 ? 100 : plain.isEmpty() ? 0 : Integer.parseInt(plain);
                if (out(v, state == 0 ? 1 : 0, 99)) {
                    return -20 - i;
                }
                one[state == 0 ? 0 : 2] = v;
                state++;
                i = end;
                continue;
            }
            if (state == 1 && c == 'p') {
                state = 2;
            } else if (state == 2 && digit && c != '0') {
                one[1] = c - '0';
                state = 3;
            } else if (state == 3 && c == 'm') {
                state = 4;
            } else if ((state == 3 || state == 5) && c == ',' && told.size() < 5) {
                told.add(one);
                one = new int[3];
                state = 0;
            } else {
                return -20 - i;
            }
            i++;
        }
        if (state != 3 && state != 5) {
            return -20 - text.length();
        }
        told.add(one);
        st.sleighs = told;
        return told.size();
    }

    int count(int what) {
        int water = 0, planks = 0;
        for (int[] s : st.squares) {
            water += s[0] == 0 ? 1 : 0;
            planks += s[4];
        }
        int[] all = {st.sleighs.size(), st.way.size(), st.heard.size(), water, planks};
        return out(what, 0, 4) ? BAD : all[what];
    }

    int sleigh(int load, int pace, int start) {
        if (out(load, 1, 99) || out(pace, 1, 9) || out(start, 0, 99)) {
            return BAD;
        }
        if (st.sleighs.size() == 6) {
            return FULL;
        }
        st.sleighs.add(new int[] {load, pace, start});
        return st.sleighs.size() - 1;
    }

    int home() {
        int n = st.sleighs.size();
        st.sleighs.clear();
        return n;
    }

    int step(int square) {
        if (out(square, 0, 63)) {
            return BAD;
        }
        int n = st.way.size();
        if (n > 0 && !next(st.way.get(n - 1), square)) {
            return NOT;
        }
        if (n == 24) {
            return FULL;
        }
        st.way.add(square);
        return n + 1;
    }

    int back(int n) {
        if (out(n, 1, 24)) {
            return BAD;
        }
        if (st.way.size() < n) {
            return NOT;
        }
        for (int i = 0; i < n; i++) {
            st.way.remove(st.way.size() - 1);
        }
        return st.way.size();
    }

    private int comes(int sleigh, int place) {
        int[] s = st.sleighs.get(sleigh);
        return s[2] + place * (10 - s[1]);
    }

    int need(int sleigh, int place) {
        if (out(sleigh, 0, st.sleighs.size() - 1) || out(place, 0, st.way.size() - 1)) {
            return BAD;
        }
        int[] me = st.sleighs.get(sleigh);
        int need = me[0] * (10 + me[1]) / 10;
        for (int k = 0; k < st.sleighs.size(); k++) {
            int[] it = st.sleighs.get(k);
            int earlier = comes(sleigh, place) - comes(k, place);
            if (earlier == 0 && k < sleigh) {
                return NOT;
            }
            if (earlier > 0) {
                need += it[0] * it[1] / (10 * earlier);
            }
        }
        return need;
    }

    int breaks(int what) {
        if (out(what, 0, 3)) {
            return BAD;
        }
        for (int minute = 0; minute < 400; minute++) {
            for (int k = 0; k < st.sleighs.size(); k++) {
                for (int place = 0; place < st.way.size(); place++) {
                    int square = st.way.get(place);
                    if (comes(k, place) == minute && (need(k, place) == NOT || need(k, place) > bears(square))) {
                        return new int[] {k, square, minute, Long.bitCount(cracks(square))}[what];
                    }
                }
            }
        }
        return NONE;
    }

    long cracks(int square) {
        if (out(square, 0, 63)) {
            return BAD;
        }
        boolean[] cracked = new boolean[64];
        cracked[square] = true;
        for (boolean more = true; more;) {
            more = false;
            for (int a = 0; a < 64; a++) {
                for (int b = 0; b < 64; b++) {
                    if (cracked[a] && !cracked[b] && next(a, b) && st.squares[b][0] < st.settings[0]) {
                        cracked[b] = true;
                        more = true;
                    }
                }
            }
        }
        long set = 0;
        for (int a = 0; a < 64; a++) {
            set |= cracked[a] ? 1L << a : 0;
        }
        return set;
    }

    int crack(int square) {
        if (out(square, 0, 63)) {
            return BAD;
        }
        long set = cracks(square);
        for (int a = 0; a < 64; a++) {
            if ((set >> a & 1) == 1) {
                st.squares[a][0] = 0;
            }
        }
        return Long.bitCount(set);
    }

    /** For each square the best row of sides to it: fewest first, then by the order of the sides. */
    private String bestSides(int from, int to, int[] bears, int need) {
        String[] best = new String[64];
        if (bears[from] >= need) {
            best[from] = "";
        }
        for (boolean more = true; more;) {
            more = false;
            for (int a = 0; a < 64; a++) {
                for (int side = 0; side < 4 && best[a] != null; side++) {
                    int b = a + UP_LEFT_RIGHT_DOWN[side];
                    if (out(b, 0, 63) || !next(a, b) || bears[b] < need) {
                        continue;
                    }
                    String sides = best[a] + side;
                    if (best[b] == null || sides.length() < best[b].length()
                        || sides.length() == best[b].length() && sides.compareTo(best[b]) < 0) {
                        best[b] = sides;
                        more = true;
                    }
                }
            }
        }
        return best[to];
    }

    private int[] bearing() {
        int[] bears = new int[64];
        for (int a = 0; a < 64; a++) {
            bears[a] = bears(a);
        }
        return bears;
    }

    private static boolean badRoad(int from, int to, int load, int pace) {
        return out(from, 0, 63) || out(to, 0, 63) || out(load, 1, 99) || out(pace, 1, 9);
    }

    int road(int from, int to, int load, int pace, int i) {
        if (badRoad(from, to, load, pace) || out(i, -1, 63)) {
            return BAD;
        }
        String sides = bestSides(from, to, bearing(), load * (10 + pace) / 10);
        if (sides == null || i > sides.length()) {
            return NONE;
        }
        int square = from;
        for (int k = 0; k < i; k++) {
            square += UP_LEFT_RIGHT_DOWN[sides.charAt(k) - '0'];
        }
        return i < 0 ? sides.length() + 1 : square;
    }

    int most(int from, int to, int pace) {
        if (badRoad(from, to, 1, pace)) {
            return BAD;
        }
        for (int load = 99; load >= 1; load--) {
            if (isJoined(from, to, load * (10 + pace) / 10)) {
                return load;
            }
        }
        return NONE;
    }

    private boolean isJoined(int from, int to, int need) {
        int[] bears = bearing();
        boolean[] at = new boolean[64];
        at[from] = bears[from] >= need;
        for (int round = 0; round < 64; round++) {
            for (int a = 0; a < 64; a++) {
                for (int side : UP_LEFT_RIGHT_DOWN) {
                    int b = a + side;
                    at[a] |= bears[a] >= need && !out(b, 0, 63) && next(a, b) && at[b];
                }
            }
        }
        return at[to];
    }

    int planks(int from, int to, int load, int pace) {
        if (badRoad(from, to, load, pace)) {
            return BAD;
        }
        int need = load * (10 + pace) / 10, never = 1000;
        int[] cost = new int[64], sum = new int[64];
        for (int a = 0; a < 64; a++) {
            int thickness = st.squares[a][0];
            cost[a] = bears(a, thickness, 0) >= need ? 0 : bears(a, thickness, 3) >= need ? 1 : never;
        }
        Arrays.fill(sum, never);
        sum[from] = cost[from];
        for (int round = 0; round < 64; round++) {
            for (int a = 0; a < 64; a++) {
                for (int side : UP_LEFT_RIGHT_DOWN) {
                    int b = a + side;
                    if (!out(b, 0, 63) && next(a, b)) {
                        sum[a] = Math.min(sum[a], sum[b] + cost[a]);
                    }
                }
            }
        }
        return sum[to] >= never ? NONE : sum[to];
    }

    int slip(int hearer, int v) {
        if (out(hearer, 0, 3) || out(v, 0, 99)) {
            return BAD;
        }
        int was = st.slips[hearer];
        st.slips[hearer] = v;
        return was;
    }

    int hear(int hearer, int square, int pitch) {
        if (out(hearer, 0, 3) || out(square, 0, 63) || out(pitch, 90, 9999)) {
            return BAD;
        }
        if (st.heard.size() == 16) {
            return FULL;
        }
        st.heard.add(new int[] {hearer, square, pitch});
        return st.heard.size();
    }

    int deaf() {
        int n = st.heard.size();
        st.heard.clear();
        return n;
    }

    private boolean fits(int set, int square, int thickness) {
        for (int[] h : st.heard) {
            int pitch = 9000 / thickness + 7 * st.squares[square][1];
            if (h[1] == square && (set >> h[0] & 1) == 1 && Math.abs(pitch - h[2]) > st.slips[h[0]]) {
                return false;
            }
        }
        return true;
    }

    /** Least and greatest of each square; null, if there are none. */
    private int[][] spans(int set) {
        int[][] ends = new int[64][];
        for (int a = 0; a < 64; a++) {
            for (int t = 1; t <= 99; t++) {
                if (fits(set, a, t)) {
                    ends[a] = new int[] {ends[a] == null ? t : ends[a][0], t};
                }
            }
            if (ends[a] == null) {
                return null;
            }
        }
        int steep = st.settings[1];
        for (boolean more = true; more;) {
            more = false;
            for (int a = 0; a < 64; a++) {
                for (int side : UP_LEFT_RIGHT_DOWN) {
                    int b = a + side;
                    if (out(b, 0, 63) || !next(a, b)) {
                        continue;
                    }
                    if (ends[a][0] < ends[b][0] - steep) {
                        ends[a][0] = ends[b][0] - steep;
                        more = true;
                    }
                    if (ends[a][1] > ends[b][1] + steep) {
                        ends[a][1] = ends[b][1] + steep;
                        more = true;
                    }
                }
            }
        }
        for (int[] e : ends) {
            if (e[0] > e[1]) {
                return null;
            }
        }
        return ends;
    }

    int span(int set, int square, int what) {
        if (out(set, 0, 15) || out(square, 0, 63) || out(what, 0, 1)) {
            return BAD;
        }
        int[][] ends = spans(set);
        return ends == null ? NONE : ends[square][what];
    }

    int safe(int from, int to, int load, int pace) {
        if (badRoad(from, to, load, pace)) {
            return BAD;
        }
        int[][] ends = spans(15);
        if (ends == null) {
            return NOT;
        }
        int[] bears = new int[64];
        for (int a = 0; a < 64; a++) {
            bears[a] = bears(a, ends[a][0], st.squares[a][4]);
        }
        String sides = bestSides(from, to, bears, load * (10 + pace) / 10);
        return sides == null ? NONE : sides.length() + 1;
    }

    int drum() {
        int[][] ends = spans(15);
        if (ends == null) {
            return NONE;
        }
        for (int wide = 98; wide >= 0; wide--) {
            for (int a = 0; a < 64; a++) {
                if (ends[a][1] - ends[a][0] == wide) {
                    return a;
                }
            }
        }
        return NONE;
    }

    int liars() {
        List<Integer> best = new ArrayList<>();
        for (int set = 0; set < 16; set++) {
            if (spans(15 - set) == null) {
                continue;
            }
            if (!best.isEmpty() && Integer.bitCount(set) < Integer.bitCount(best.get(0))) {
                best.clear();
            }
            if (best.isEmpty() || Integer.bitCount(set) == Integer.bitCount(best.get(0))) {
                best.add(set);
            }
        }
        return best.size() == 1 ? best.get(0) : NONE;
    }

    int image() {
        picture = st.twin();
        return 1;
    }

    int restore() {
        if (picture == null) {
            return NONE;
        }
        st = picture.twin();
        return 1;
    }

    private int refusal(int sheet, int lane, int from, int n) {
        Object s = sheets[sheet];
        if (s == null) {
            return NULL;
        }
        int its = s instanceof boolean[] ? 0 : s instanceof byte[] ? 1 : 2;
        if (its != lane) {
            return CAST;
        }
        return from < 0 || (long) from + n > java.lang.reflect.Array.getLength(s) ? INDEX : 0;
    }

    int go(int sheet, int lane, int from, int n) {
        if (out(sheet, 0, 3) || out(lane, 1, 2) || out(n, 1, 24)) {
            return BAD;
        }
        int refusal = refusal(sheet, lane, from, n);
        if (refusal != 0) {
            return refusal;
        }
        List<Integer> way = new ArrayList<>();
        for (int i = from; i < from + n; i++) {
            long v = lane == 1 ? ((byte[]) sheets[sheet])[i] : ((long[]) sheets[sheet])[i];
            if (out(v, 0, 63) || !way.isEmpty() && !next(way.get(way.size() - 1), (int) v)) {
                return NOT;
            }
            way.add((int) v);
        }
        st.way = way;
        return n;
    }

    int film(int row, int sheet, int from) {
        if (out(row, 0, 7) || out(sheet, 0, 3)) {
            return BAD;
        }
        int refusal = refusal(sheet, 0, from, 8), have = 0;
        if (refusal != 0) {
            return refusal;
        }
        for (int i = 0; i < 8; i++) {
            have += st.squares[8 * row + i][0] > 0 ? 1 : 0;
        }
        return have;
    }

    int sheet(int sheet, int lane, int n) {
        if (out(sheet, 0, 3) || out(lane, 0, 2) || n > 24) {
            return BAD;
        }
        if (n < 0) {
            return SIZE;
        }
        sheets[sheet] = lane == 0 ? new boolean[n] : lane == 1 ? new byte[n] : new long[n];
        return n;
    }

    int drop(int sheet) {
        if (out(sheet, 0, 3)) {
            return BAD;
        }
        if (sheets[sheet] == null) {
            return NULL;
        }
        int n = java.lang.reflect.Array.getLength(sheets[sheet]);
        sheets[sheet] = null;
        return n;
    }

    int item(int sheet, int lane, int i, long v) {
        if (out(sheet, 0, 3) || out(lane, 0, 2)) {
            return BAD;
        }
        int refusal = refusal(sheet, lane, i, 1);
        if (refusal != 0) {
            return refusal;
        }
        if (lane == 1) {
            ((byte[]) sheets[sheet])[i] = (byte) v;
        } else if (lane == 2) {
            ((long[]) sheets[sheet])[i] = v;
        }
        return 1;
    }
}
