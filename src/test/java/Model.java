import java.util.ArrayList;
import java.util.Arrays;
import java.util.Collections;
import java.util.List;

/** The document's words once more, as plainly as they can be written, to be compared with. */
final class Model {
    private static final int[] GREATEST = {254, 9, 12, 11, 999, 999, 999};

    private final int[][] table = new int[40][7];
    private final int[][] parts = new int[40][];
    private final boolean[] excluded = new boolean[40];
    private List<Integer> text = new ArrayList<>();
    private final List<List<Integer>> slots = new ArrayList<>();

    Model() {
        Arrays.fill(parts, new int[0]);
        for (int k = 0; k < 4; k++) {
            slots.add(List.of());
        }
    }

    void set(int c, int what, int v) {
        if (c < 0 || c > 39 || what < 0 || what > 6 || v < 0 || v > GREATEST[what]) {
            throw new IllegalArgumentException();
        }
        table[c][what] = v;
    }

    void part(int c, int a, int b, boolean isExcluded) {
        if (c < 0 || c > 39 || a < -1 || a > c - 1 || b < -1 || b > c - 1 || a == -1 && b != -1) {
            throw new IllegalArgumentException();
        }
        int[] old = parts[c];
        parts[c] = a == -1 ? new int[0] : b == -1 ? new int[] {a} : new int[] {a, b};
        for (int i = 0; i < 40; i++) {
            if (fullyParted(i).size() > 4) {
                parts[c] = old;
                throw new IllegalStateException();
            }
        }
        excluded[c] = isExcluded;
    }

    int type(int c) {
        if (c < 0 || c > 74) {
            throw new IllegalArgumentException();
        }
        if (text.size() == 40) {
            throw new IllegalStateException();
        }
        text.add(c);
        return text.size();
    }

    void wipe() {
        text.clear();
    }

    int bring(boolean joined) {
        List<Integer> form = joined ? joinedForm(text) : partedForm(text);
        if (form.size() > 40) {
            throw new IllegalStateException();
        }
        text = form;
        return text.size();
    }

    int at(int i) {
        return text.get(i);
    }

    int length() {
        return text.size();
    }

    boolean cluster(int i) {
        place(i);
        return i == 0 || i == text.size() || clusterEnds(i);
    }

    int clusters() {
        int count = text.isEmpty() ? 0 : 1;
        for (int i = 1; i < text.size(); i++) {
            count += clusterEnds(i) ? 1 : 0;
        }
        return count;
    }

    int line(int i) {
        place(i);
        return i == 0 ? 0 : i == text.size() ? 2 : "NMX".indexOf(lineEnd(i));
    }

    int level(int i, int base) {
        text.get(i);
        return levels(base)[i];
    }

    int order(int i, int base) {
        text.get(i);
        int[] levels = levels(base);
        List<Integer> row = new ArrayList<>();
        for (int k = 0; k < text.size(); k++) {
            row.add(k);
        }
        for (int level = 9; level >= 1; level--) {
            for (int from = 0; from < row.size(); from++) {
                int to = from;
                while (to < row.size() && levels[row.get(to)] >= level) {
                    to++;
                }
                if (to > from) {
                    Collections.reverse(row.subList(from, to));
                    from = to;
                }
            }
        }
        return row.get(i);
    }

    int key() {
        return keyOf(text).size();
    }

    int keyAt(int i) {
        return keyOf(text).get(i);
    }

    void keep(int k) {
        slots.set(k, new ArrayList<>(text));
    }

    int compare(int k) {
        List<Integer> a = keyOf(text);
        List<Integer> b = keyOf(slots.get(k));
        for (int i = 0; ; i++) {
            if (i == a.size() || i == b.size()) {
                return a.size() == b.size() ? 0 : i == a.size() ? -1 : 1;
            }
            if (a.get(i).intValue() != b.get(i).intValue()) {
                return a.get(i) < b.get(i) ? -1 : 1;
            }
        }
    }

    boolean same(int k) {
        return partedForm(text).equals(partedForm(slots.get(k)));
    }

    private void place(int i) {
        if (i < 0 || i > text.size()) {
            throw new IndexOutOfBoundsException();
        }
    }

    private int property(int c, int what) {
        if (c < 40) {
            return table[c][what];
        }
        int weight = c >= 48 ? -1 : what == 4 ? 1000 + c : 1;
        return what == 2 ? 10 : what < 4 ? 0 : weight;
    }

    private List<Integer> fullyParted(int c) {
        List<Integer> all = new ArrayList<>();
        if (c >= 48) {
            all.add(40 + (c - 48) / 9);
            all.add(43 + (c - 48) / 3 % 3);
            if ((c - 48) % 3 != 0) {
                all.add(45 + (c - 48) % 3);
            }
        } else if (c >= 40 || parts[c].length == 0) {
            all.add(c);
        } else {
            for (int part : parts[c]) {
                all.addAll(fullyParted(part));
            }
        }
        return all;
    }

    private List<Integer> partedForm(List<Integer> from) {
        List<Integer> form = new ArrayList<>();
        for (int c : from) {
            form.addAll(fullyParted(c));
        }
        boolean changed = true;
        while (changed) {
            changed = false;
            for (int i = 0; i + 1 < form.size(); i++) {
                int second = property(form.get(i + 1), 0);
                if (property(form.get(i), 0) > second && second != 0) {
                    Collections.swap(form, i, i + 1);
                    changed = true;
                }
            }
        }
        return form;
    }

    private List<Integer> joinedForm(List<Integer> from) {
        List<Integer> form = partedForm(from);
        int i = 1;
        while (i < form.size()) {
            int c = form.get(i);
            int s = i - 1;
            while (s >= 0 && property(form.get(s), 0) != 0) {
                s--;
            }
            int to = s < 0 ? -1 : join(form.get(s), c);
            for (int k = s + 1; k < i; k++) {
                if (property(form.get(k), 0) >= property(c, 0)) {
                    to = -1;
                }
            }
            if (to < 0) {
                i++;
            } else {
                form.set(s, to);
                form.remove(i);
            }
        }
        return form;
    }

    private int join(int a, int b) {
        for (int c = 0; c < 40; c++) {
            if (table[c][0] == 0 && Arrays.equals(parts[c], new int[] {a, b}) && !excluded[c]) {
                return c;
            }
        }
        if (isLead(a) && isVowel(b)) {
            return 48 + 9 * (a - 40) + 3 * (b - 43);
        }
        return isOpenSyllable(a) && isTail(b) ? a + b - 45 : -1;
    }

    private static boolean isLead(int c) {
        return c == 40 || c == 41 || c == 42;
    }

    private static boolean isVowel(int c) {
        return c == 43 || c == 44 || c == 45;
    }

    private static boolean isTail(int c) {
        return c == 46 || c == 47;
    }

    private static boolean isOpenSyllable(int c) {
        return c >= 48 && c % 3 == 0;
    }

    private static boolean isClosedSyllable(int c) {
        return c >= 48 && c % 3 != 0;
    }

    /** One letter a character: o r f c e j g p s i, and for those from 40 on L V T W (open) Q. */
    private String clusterLetters() {
        StringBuilder all = new StringBuilder();
        for (int c : text) {
            if (c < 40) {
                all.append("orfcejgpsi".charAt(table[c][1]));
            } else {
                all.append(isLead(c) ? 'L' : isVowel(c) ? 'V' : isTail(c) ? 'T'
                        : isOpenSyllable(c) ? 'W' : isClosedSyllable(c) ? 'Q' : '?');
            }
        }
        return all.toString();
    }

    private boolean clusterEnds(int i) {
        String front = clusterLetters().substring(0, i);
        String pair = clusterLetters().substring(i - 1, i + 1);
        String y = pair.substring(1);
        if (pair.equals("rf")) {
            return false;
        }
        if (pair.matches(".*[rfc].*")) {
            return true;
        }
        if (pair.matches("L[LVWQ]|[VW][VT]|[TQ]T|.[ejs]|p.")) {
            return false;
        }
        if (front.matches(".*ie*j") && y.equals("i")) {
            return false;
        }
        return !(front.matches("(.*[^g])?g(gg)*") && y.equals("g"));
    }

    /** One letter a character, a MARK being small when it takes its letter from the front. */
    private String lineLetters() {
        StringBuilder all = new StringBuilder();
        for (int i = 0; i < text.size(); i++) {
            char kind = "AESZGOCQHDNMK".charAt(property(text.get(i), 2));
            if (kind == 'M') {
                char before = i == 0 ? 'E' : all.charAt(i - 1);
                kind = "ESZ".indexOf(before) >= 0 ? 'A' : Character.toLowerCase(before);
            }
            all.append(kind);
        }
        return all.toString();
    }

    /** N for may not, M for may, X for must. */
    private char lineEnd(int i) {
        String all = lineLetters();
        boolean isMark = Character.isLowerCase(all.charAt(i));
        String front = all.substring(0, i).toUpperCase();
        String pair = all.substring(i - 1, i + 1).toUpperCase();
        String y = pair.substring(1);
        if (pair.startsWith("E")) {
            return 'X';
        }
        if (pair.matches(".[ESZ]")) {
            return 'N';
        }
        if (front.matches(".*ZS*")) {
            return 'M';
        }
        if (isMark || pair.matches("G.|.G|.[CK]") || front.matches(".*OS*")) {
            return 'N';
        }
        if (front.matches(".*QS*") && y.equals("O")) {
            return 'N';
        }
        if (pair.startsWith("S")) {
            return 'M';
        }
        return pair.matches("Q.|.Q|.H|[HK]D|[AD][AD]|KA|[AD]O|C[AD]") ? 'N' : 'M';
    }

    private int[] levels(int asked) {
        int n = text.size();
        String raw = "";
        for (int c : text) {
            raw += "LRANSUBPXWTO".charAt(property(c, 3));
        }
        String strong = raw.replaceAll("[^LRA]", "");
        int base = asked == 0 || asked == 1 ? asked : strong.isEmpty() || strong.startsWith("L") ? 0 : 1;
        String own = base == 0 ? "L" : "R";
        String row = sided(own + raw + own, own);
        String gaps = raw + "T";
        int[] levels = new int[n];
        for (int i = 0; i < n; i++) {
            char kind = row.charAt(i + 1);
            levels[i] = kind == 'R' ? 1 : base == 0 && kind == 'L' ? 0 : 2;
            if (gaps.substring(i).matches("W*T.*")) {
                levels[i] = base;
            }
        }
        return levels;
    }

    /** The steps, each letter by letter; the base's own letter stands at both ends of the row. */
    private static String sided(String given, String own) {
        String row = given;
        for (int i = 1; i < row.length() - 1; i++) {
            row = row.charAt(i) == 'X' ? with(row, i, row.charAt(i - 1)) : row;
        }
        for (int i = 1; i < row.length() - 1; i++) {
            boolean isArab = row.substring(0, i).matches(".*A[^LRA]*");
            row = row.charAt(i) == 'N' && isArab ? with(row, i, 'B') : row;
        }
        row = row.replace('A', 'R');
        for (int i = 1; i < row.length() - 1; i++) {
            String three = row.substring(i - 1, i + 2);
            row = three.matches("NSN|NPN") ? with(row, i, 'N') : three.equals("BPB") ? with(row, i, 'B') : row;
        }
        for (int i = 1; i < row.length() - 1; i++) {
            boolean isByNumber = row.substring(0, i).matches(".*NU*") || row.substring(i).matches("U*N.*");
            row = row.charAt(i) == 'U' && isByNumber ? with(row, i, 'N') : row;
        }
        row = row.replaceAll("[SUP]", "O");
        for (int i = 1; i < row.length() - 1; i++) {
            boolean isLeft = row.substring(0, i).matches(".*L[^LR]*");
            row = row.charAt(i) == 'N' && isLeft ? with(row, i, 'L') : row;
        }
        String done = row;
        for (int i = 1; i < row.length() - 1; i++) {
            if ("WTO".indexOf(row.charAt(i)) >= 0) {
                String front = row.substring(0, i).replaceAll("[WTO]*$", "");
                String behind = row.substring(i).replaceAll("^[WTO]*", "");
                String two = front.substring(front.length() - 1) + behind.charAt(0);
                done = with(done, i, two.equals("LL") ? 'L' : two.matches("[RNB]{2}") ? 'R' : own.charAt(0));
            }
        }
        return done;
    }

    private static String with(String row, int i, char kind) {
        return row.substring(0, i) + kind + row.substring(i + 1);
    }

    private List<Integer> keyOf(List<Integer> from) {
        List<Integer> key = new ArrayList<>();
        for (int what = 4; what <= 6; what++) {
            for (int c : partedForm(from)) {
                if (property(c, what) != 0) {
                    key.add(property(c, what));
                }
            }
            if (what < 6) {
                key.add(0);
            }
        }
        return key;
    }
}
