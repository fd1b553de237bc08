import java.util.ArrayList;
import java.util.List;

/**
 * TornReeds once more, as slowly and as near to the words of DOC.md as can be, to compare answers
 * with. It shares no thought with the program: every question is asked of all places anew.
 */
final class Plain {
    private static final int NONE = -1;

    private static final class Bit {
        final char[][] sign = new char[5][10];
        final int[] across = new int[5];
        final int[] down = new int[10];
        final List<Integer> holes = new ArrayList<>();

        boolean has(int r, int c) {
            return r >= 0 && r < 5 && c >= 0 && c < 10 && sign[r][c] != '_';
        }

        boolean hasRow(int r) {
            for (int c = 0; c < 10; c++) {
                if (has(r, c)) {
                    return true;
                }
            }
            return false;
        }

        boolean hasColumn(int c) {
            for (int r = 0; r < 5; r++) {
                if (has(r, c)) {
                    return true;
                }
            }
            return false;
        }
    }

    private String tape = "";
    private final Bit[] bits = new Bit[10];
    private final int[][] places = new int[10][];
    private final List<String> list = new ArrayList<>();
    private int[] roll;
    private String text;

    int feed(int a, int b, int c, int d, int e) {
        if (tape.length() + 20 > 200) {
            return NONE;
        }
        StringBuilder more = new StringBuilder(tape);
        for (int n : new int[] {a, b, c, d, e}) {
            more.append((char) (n >>> 24)).append((char) (n >>> 16 & 255));
            more.append((char) (n >>> 8 & 255)).append((char) (n & 255));
        }
        tape = more.toString();
        return tape.length();
    }

    boolean end(int n) {
        if (n < 0 || n > tape.length()) {
            return false;
        }
        tape = tape.substring(0, n);
        return true;
    }

    int bit(int b) {
        String said = tape;
        tape = "";
        String[] rows = said.split(";", -1);
        if (b < 0 || b > 9 || rows.length > 5) {
            return NONE;
        }
        Bit made = new Bit();
        int cells = 0;
        for (int r = 0; r < 5; r++) {
            String row = r < rows.length ? rows[r] : "";
            if (!row.matches("[a-z.,_]{0,10}")) {
                return NONE;
            }
            for (int c = 0; c < 10; c++) {
                made.sign[r][c] = c < row.length() ? row.charAt(c) : '_';
                cells += made.sign[r][c] == '_' ? 0 : 1;
            }
        }
        if (cells == 0) {
            return NONE;
        }
        bits[b] = made;
        places[b] = null;
        return cells;
    }

    boolean isBit(int b) {
        return b >= 0 && b <= 9 && bits[b] != null;
    }

    boolean lies(int b) {
        return isBit(b) && places[b] != null;
    }

    int cell(int b, int row, int column) {
        if (!isBit(b) || row < 0 || row > 4 || column < 0 || column > 9) {
            return NONE;
        }
        return bits[b].sign[row][column];
    }

    int fibre(int b, boolean across, int i, int v) {
        if (!isBit(b) || lies(b) || v < 0 || v > 99 || i < 0 || i > (across ? 4 : 9)) {
            return NONE;
        }
        int[] fibres = across ? bits[b].across : bits[b].down;
        int was = fibres[i];
        fibres[i] = v;
        return was;
    }

    int word() {
        String said = tape;
        tape = "";
        if (!said.matches("[a-z]{1,10}") || list.size() == 12) {
            return NONE;
        }
        list.add(said);
        return list.size();
    }

    // ---- the sheet

    private static int signAt(Bit[] bits, int[][] places, int row, int column) {
        int b = ownerAt(bits, places, row, column);
        return b == NONE ? '_' : bits[b].sign[row - places[b][0]][column - places[b][1]];
    }

    private static int ownerAt(Bit[] bits, int[][] places, int row, int column) {
        for (int b = 0; b < 10; b++) {
            if (places[b] != null && bits[b].has(row - places[b][0], column - places[b][1])) {
                return b;
            }
        }
        return NONE;
    }

    /** Whether a BIT is within THE SHEET, and where no other one is. */
    private boolean hasRoom(int b, int[][] where) {
        for (int r = 0; r < 5; r++) {
            for (int c = 0; c < 10; c++) {
                long row = (long) where[b][0] + r;
                long column = (long) where[b][1] + c;
                if (bits[b].has(r, c)) {
                    if (row < 0 || row > 15 || column < 0 || column > 31) {
                        return false;
                    }
                    for (int other = 0; other < 10; other++) {
                        if (other != b && where[other] != null
                                && bits[other].has((int) row - where[other][0], (int) column - where[other][1])) {
                            return false;
                        }
                    }
                }
            }
        }
        return true;
    }

    private boolean quarrel(int a, int b, int[][] where) {
        for (int row = 0; row < 16; row++) {
            int r = row - where[a][0];
            int s = row - where[b][0];
            if (r >= 0 && r < 5 && s >= 0 && s < 5 && bits[a].hasRow(r) && bits[b].hasRow(s)
                    && bits[a].across[r] != 0 && bits[b].across[s] != 0 && bits[a].across[r] != bits[b].across[s]) {
                return true;
            }
        }
        for (int column = 0; column < 32; column++) {
            int c = column - where[a][1];
            int d = column - where[b][1];
            if (c >= 0 && c < 10 && d >= 0 && d < 10 && bits[a].hasColumn(c) && bits[b].hasColumn(d)
                    && bits[a].down[c] != 0 && bits[b].down[d] != 0 && bits[a].down[c] != bits[b].down[d]) {
                return true;
            }
        }
        return false;
    }

    private String rowText(int row, int[][] where) {
        StringBuilder s = new StringBuilder();
        for (int column = 0; column < 32; column++) {
            s.append((char) signAt(bits, where, row, column));
        }
        return s.toString();
    }

    private static boolean isText(char c) {
        return c == '.' || c >= 'a' && c <= 'z';
    }

    private boolean can(String row, int start, int behind, String word) {
        boolean closedAhead = start > 0 && row.charAt(start - 1) == ',';
        boolean closedBehind = behind < 32 && row.charAt(behind) == ',';
        String run = row.substring(start, behind);
        for (int from = 0; from + run.length() <= word.length(); from++) {
            boolean same = word.substring(from, from + run.length()).matches(run);
            boolean ahead = !closedAhead || from == 0;
            boolean ends = !closedBehind || from + run.length() == word.length();
            if (same && ahead && ends) {
                return true;
            }
        }
        return false;
    }

    private boolean runsCan(int[][] where) {
        if (list.isEmpty()) {
            return true;
        }
        for (int r = 0; r < 16; r++) {
            String row = rowText(r, where);
            for (int start = 0; start < 32; start++) {
                if (isText(row.charAt(start)) && (start == 0 || !isText(row.charAt(start - 1)))) {
                    int behind = start;
                    while (behind < 32 && isText(row.charAt(behind))) {
                        behind++;
                    }
                    boolean some = false;
                    for (String word : list) {
                        some |= can(row, start, behind, word);
                    }
                    if (!some) {
                        return false;
                    }
                }
            }
        }
        return true;
    }

    private boolean mayLie(int[][] where) {
        for (int a = 0; a < 10; a++) {
            if (where[a] != null && !hasRoom(a, where)) {
                return false;
            }
            for (int b = 0; b < a; b++) {
                if (where[a] != null && where[b] != null && quarrel(a, b, where)) {
                    return false;
                }
            }
        }
        return runsCan(where);
    }

    private int sides(int a, int b, int[][] where) {
        int sum = 0;
        int[][] steps = {{-1, 0}, {1, 0}, {0, -1}, {0, 1}};
        for (int r = 0; r < 5; r++) {
            for (int c = 0; c < 10; c++) {
                for (int[] step : steps) {
                    int row = r + where[a][0] - where[b][0] + step[0];
                    int column = c + where[a][1] - where[b][1] + step[1];
                    sum += bits[a].has(r, c) && bits[b].has(row, column) ? 1 : 0;
                }
            }
        }
        return sum;
    }

    private int worthOf(int a, int b, int[][] where) {
        int sum = sides(a, b, where);
        for (int r = 0; r < 5; r++) {
            int s = r + where[a][0] - where[b][0];
            if (s >= 0 && s < 5 && bits[a].hasRow(r) && bits[b].hasRow(s)
                    && bits[a].across[r] != 0 && bits[a].across[r] == bits[b].across[s]) {
                sum += 2;
            }
        }
        for (int c = 0; c < 10; c++) {
            int d = c + where[a][1] - where[b][1];
            if (d >= 0 && d < 10 && bits[a].hasColumn(c) && bits[b].hasColumn(d)
                    && bits[a].down[c] != 0 && bits[a].down[c] == bits[b].down[d]) {
                sum += 2;
            }
        }
        return sum;
    }

    private int worthOf(int[][] where) {
        int sum = 0;
        for (int a = 0; a < 10; a++) {
            for (int b = 0; b < a; b++) {
                if (where[a] != null && where[b] != null) {
                    sum += worthOf(a, b, where);
                }
            }
        }
        return sum;
    }

    boolean lay(int b, int row, int column) {
        if (!isBit(b) || lies(b)) {
            return false;
        }
        places[b] = new int[] {row, column};
        if (!hasRoom(b, places) || !mayLie(places)) {
            places[b] = null;
        }
        return places[b] != null;
    }

    boolean take(int b) {
        if (!lies(b)) {
            return false;
        }
        places[b] = null;
        return true;
    }

    int place(int b, int what) {
        return !lies(b) || what < 0 || what > 1 ? NONE : places[b][what];
    }

    private static boolean inside(int row, int column) {
        return row >= 0 && row < 16 && column >= 0 && column < 32;
    }

    int sheet(int row, int column) {
        return inside(row, column) ? signAt(bits, places, row, column) : NONE;
    }

    int whose(int row, int column) {
        return inside(row, column) ? ownerAt(bits, places, row, column) : NONE;
    }

    /** The words that the RUN with a CELL can be; null when there is none. */
    private List<Integer> reads(int row, int column) {
        if (!inside(row, column) || !isText((char) sheet(row, column))) {
            return null;
        }
        String text = rowText(row, places);
        int start = column;
        while (start > 0 && isText(text.charAt(start - 1))) {
            start--;
        }
        int behind = column;
        while (behind < 32 && isText(text.charAt(behind))) {
            behind++;
        }
        List<Integer> found = new ArrayList<>();
        for (int k = 0; k < list.size(); k++) {
            if (can(text, start, behind, list.get(k))) {
                found.add(k);
            }
        }
        return found;
    }

    int words(int row, int column) {
        List<Integer> found = reads(row, column);
        return found == null ? NONE : found.size();
    }

    int read(int row, int column, int k) {
        List<Integer> found = reads(row, column);
        return found == null || k < 0 || k >= found.size() ? NONE : found.get(k);
    }

    int worth() {
        return worthOf(places);
    }

    private boolean someLie() {
        for (int b = 0; b < 10; b++) {
            if (lies(b)) {
                return true;
            }
        }
        return false;
    }

    private boolean touches(int b, int[][] where, int[][] others) {
        for (int other = 0; other < 10; other++) {
            if (others[other] != null && sides(b, other, where) > 0) {
                return true;
            }
        }
        return false;
    }

    /** All places of a BIT that has room there with those that lie. */
    private List<int[]> roomy(int b) {
        List<int[]> found = new ArrayList<>();
        int[][] where = places.clone();
        for (int row = -4; row < 16; row++) {
            for (int column = -9; column < 32; column++) {
                where[b] = new int[] {row, column};
                if (hasRoom(b, where)) {
                    found.add(where[b]);
                }
            }
        }
        return found;
    }

    int join(int a, int b) {
        if (!isBit(a) || lies(a) || !someLie() || b != NONE && (!isBit(b) || lies(b)) || a == b) {
            return NONE;
        }
        int best = -2;
        int[][] bestWhere = null;
        int lesser = b == NONE ? a : Math.min(a, b);
        int other = Math.max(a, b);
        int[][] where = places.clone();
        for (int[] p : roomy(lesser)) {
            where[lesser] = p;
            boolean first = touches(lesser, where, places);
            if (b == NONE) {
                if (first && worthOf(where) > best && mayLie(where)) {
                    best = worthOf(where);
                    bestWhere = where.clone();
                }
                continue;
            }
            for (int[] q : roomyOf(other)) {
                where[other] = q;
                boolean second = touches(other, where, places);
                if ((first && second || (first || second) && sides(lesser, other, where) > 0)
                        && hasRoom(other, where) && worthOf(where) > best && mayLie(where)) {
                    best = worthOf(where);
                    bestWhere = where.clone();
                }
            }
            where[other] = null;
        }
        roomyKept = null;
        if (bestWhere != null) {
            System.arraycopy(bestWhere, 0, places, 0, 10);
        }
        return best;
    }

    private List<int[]> roomyKept;

    private List<int[]> roomyOf(int b) {
        if (roomyKept == null) {
            roomyKept = roomy(b);
        }
        return roomyKept;
    }

    int joins(int a) {
        if (!isBit(a) || lies(a) || !someLie()) {
            return NONE;
        }
        int found = 0;
        int[][] where = places.clone();
        for (int[] p : roomy(a)) {
            where[a] = p;
            if (touches(a, where, places) && mayLie(where)) {
                found++;
            }
        }
        return found;
    }

    // ---- rolls, known texts

    int roll(int gap, int step) {
        if (gap < 1 || gap > 1000 || step < 0 || step > 100) {
            return NONE;
        }
        List<Integer> holes = new ArrayList<>();
        holes.add(0);
        for (int n = 0; n < 39 && gap - n * step >= 1; n++) {
            holes.add(holes.get(n) + gap - n * step);
        }
        roll = new int[holes.size()];
        for (int i = 0; i < roll.length; i++) {
            roll[i] = holes.get(i);
        }
        return roll.length;
    }

    int hole(int b, int distance) {
        if (!isBit(b) || distance < 0 || distance > 2000) {
            return NONE;
        }
        List<Integer> holes = bits[b].holes;
        if (holes.size() == 6 || !holes.isEmpty() && holes.get(holes.size() - 1) >= distance) {
            return NONE;
        }
        holes.add(distance);
        return holes.size();
    }

    /** The places at which a BIT STOOD, found by trying each one up to the ROLL's last HOLE; null when none can be told. */
    private List<Integer> stoodAt(int b) {
        if (!isBit(b) || roll == null || bits[b].holes.isEmpty()) {
            return null;
        }
        List<Integer> holes = bits[b].holes;
        int wide = holes.get(holes.size() - 1);
        List<Integer> found = new ArrayList<>();
        for (int p = 0; p <= roll[roll.length - 1]; p++) {
            List<Integer> seen = new ArrayList<>();
            for (int h : roll) {
                if (h >= p && h <= p + wide) {
                    seen.add(h - p);
                }
            }
            if (seen.equals(holes)) {
                found.add(p);
            }
        }
        return found;
    }

    int stood(int b) {
        List<Integer> found = stoodAt(b);
        return found == null ? NONE : found.size();
    }

    int standing(int b, int k) {
        List<Integer> found = stoodAt(b);
        return found == null || k < 0 || k >= found.size() ? NONE : found.get(k);
    }

    int known() {
        String said = tape;
        tape = "";
        if (!said.matches("[a-z]{1,200}")) {
            return NONE;
        }
        text = said;
        return said.length();
    }

    private boolean standsAt(Bit bit, int w, int i) {
        int seen = 0;
        for (int r = 0; r < 5; r++) {
            for (int c = 0; c < 10; c++) {
                char sign = bit.sign[r][c];
                if (!isText(sign)) {
                    continue;
                }
                seen++;
                int at = i + r * w + c;
                if (at < 0 || at >= text.length()
                        || (int) Math.floor((double) at / w) != (int) Math.floor((double) i / w) + r
                        || sign != '.' && text.charAt(at) != sign) {
                    return false;
                }
            }
        }
        return seen > 0;
    }

    private List<Integer> standsIn(int b, int w) {
        if (!isBit(b) || text == null || w < 2 || w > 60) {
            return null;
        }
        List<Integer> found = new ArrayList<>();
        for (int i = -400; i < 400; i++) {
            if (standsAt(bits[b], w, i)) {
                found.add(i);
            }
        }
        return found;
    }

    int stands(int b, int w) {
        List<Integer> found = standsIn(b, w);
        return found == null ? NONE : found.size();
    }

    int letter(int b, int w, int k) {
        List<Integer> found = standsIn(b, w);
        return found == null || k < 0 || k >= found.size() ? -1000 : found.get(k);
    }

    int width(int b, int from, int to) {
        if (from < 2 || to > 60) {
            return NONE;
        }
        int best = NONE;
        int most = 0;
        for (int w = from; w <= to; w++) {
            if (stands(b, w) > most) {
                most = stands(b, w);
                best = w;
            }
        }
        return best;
    }
}
