import java.util.ArrayList;
import java.util.Arrays;
import java.util.List;
import java.util.NoSuchElementException;

/**
 * The document once more, written in another way: everything that was told is kept as told, and each answer is worked
 * out anew, by the words of the document. Years are found by narrowing the year of each claimed stock by itself.
 */
public final class PlainStudy {
    private static final class Sheet {
        Mould mould;
        int year;
        int lot;
    }

    private static final class Mould {
        int number;
        int mill;
        int mark;
        int[] distances;
        List<int[]> damages = new ArrayList<>(); // wire, kind, year
        List<int[]> sales = new ArrayList<>(); // mill, year
        int retired = -1;
        Mould twin;
        List<Integer> uses = new ArrayList<>();

        int kind(int wire, int state) {
            int kind = 0;
            for (int[] d : damages.subList(0, state)) {
                kind = d[0] == wire ? Math.max(kind, d[1]) : kind;
            }
            return kind;
        }

        int state(int year) {
            return (int) damages.stream().filter(d -> d[2] <= year).count();
        }

        int owner(int year) {
            int owner = mill;
            for (int[] s : sales) {
                owner = s[1] <= year ? s[0] : owner;
            }
            return owner;
        }

        boolean damagedAfter(int year) {
            return damages.stream().anyMatch(d -> d[2] > year);
        }

        boolean usedAfter(int year) {
            return uses.stream().anyMatch(u -> u > year);
        }

        boolean barred(int year) {
            return retired != -1 && retired < year || damagedAfter(year) || retired > year || usedAfter(year);
        }
    }

    private static final class Document {
        int year;
        int folds;
        boolean washed;
        List<Sheet> sheets = new ArrayList<>();
        List<int[]> cancelled = new ArrayList<>(); // sheet, leaf, other
        List<int[]> claims = new ArrayList<>(); // mould, state
        int date;
    }

    private static final class Image {
        int mark;
        int[] distances = new int[4];
        int[] kinds = new int[8]; // -1 not seen
    }

    private final List<Mould> moulds = new ArrayList<>();
    private final List<List<Sheet>> lots = new ArrayList<>();
    private final List<Integer> lotSizes = new ArrayList<>();
    private final List<List<Sheet>> reams = new ArrayList<>();
    private final List<Integer> reamMills = new ArrayList<>();
    private final List<Document> documents = new ArrayList<>();
    private final List<Image> images = new ArrayList<>();
    private final List<int[]> merges = new ArrayList<>();
    private int tolerance = 3;
    private int age = 12;

    int sheetsOf(int document) {
        return document < documents.size() ? documents.get(document).sheets.size() : 0;
    }

    int leavesOf(int document) {
        return document < documents.size() ? leaves(documents.get(document)) : 0;
    }

    private static <T> T at(List<T> list, int i) {
        if (i < 0 || i >= list.size()) {
            throw new IndexOutOfBoundsException();
        }
        return list.get(i);
    }

    private static void in(int value, int low, int high) {
        if (value < low || value > high) {
            throw new IllegalArgumentException();
        }
    }

    private static void not(boolean wrong) {
        if (wrong) {
            throw new UnsupportedOperationException();
        }
    }

    private static void full(boolean full) {
        if (full) {
            throw new IllegalStateException();
        }
    }

    private static void missing(boolean missing) {
        if (missing) {
            throw new NoSuchElementException();
        }
    }

    private static void year(int y) {
        in(y, 1400, 1900);
    }

    // ---- moulds

    public int mould(int mill, int mark, int first, int second, int third, int fourth) {
        in(mill, 0, 4);
        in(mark, 0, 99);
        for (int d : new int[] {first, second, third, fourth}) {
            in(d, 100, 400);
        }
        return add(mill, mark, new int[] {first, second, third, fourth});
    }

    private int add(int mill, int mark, int[] distances) {
        full(moulds.size() == 12);
        Mould m = new Mould();
        m.number = moulds.size();
        m.mill = mill;
        m.mark = mark;
        m.distances = distances;
        moulds.add(m);
        return m.number;
    }

    public int copy(int mould, int mill) {
        Mould m = at(moulds, mould);
        in(mill, 0, 4);
        return add(mill, m.mark, m.distances.clone());
    }

    public boolean twin(int mould, int other) {
        Mould a = at(moulds, mould);
        Mould b = at(moulds, other);
        in(a == b ? 1 : 0, 0, 0);
        if (a.twin == b) {
            return false;
        }
        not(a.twin != null || b.twin != null);
        a.twin = b;
        b.twin = a;
        return true;
    }

    public int damage(int mould, int wire, boolean isBroken, int year) {
        Mould m = at(moulds, mould);
        in(wire, 0, 7);
        year(year);
        int now = m.kind(wire, m.damages.size());
        not(now == 2 || now == 1 && !isBroken);
        not(m.barred(year));
        m.damages.add(new int[] {wire, isBroken ? 2 : 1, year});
        return m.damages.size();
    }

    public int retire(int mould, int year) {
        Mould m = at(moulds, mould);
        year(year);
        not(m.retired != -1 || m.damagedAfter(year) || m.usedAfter(year));
        m.retired = year;
        return m.damages.size() + 1;
    }

    public int sell(int mould, int mill, int year) {
        Mould m = at(moulds, mould);
        in(mill, 0, 4);
        year(year);
        not(m.sales.stream().anyMatch(s -> s[1] > year) || m.owner(year) == mill);
        int before = m.owner(year);
        m.sales.add(new int[] {mill, year});
        return before;
    }

    public int owner(int mould, int year) {
        Mould m = at(moulds, mould);
        year(year);
        return m.owner(year);
    }

    public int state(int mould, int year) {
        Mould m = at(moulds, mould);
        year(year);
        return m.state(year);
    }

    public char wire(int mould, int state, int wire) {
        Mould m = at(moulds, mould);
        in(wire, 0, 7);
        missing(state < 0 || state > m.damages.size());
        return "-bx".charAt(m.kind(wire, state));
    }

    // ---- lots, reams, documents

    public int make(int mould, boolean isByTurns, int year, int sheets) {
        Mould m = at(moulds, mould);
        year(year);
        in(sheets, 1, 500);
        not(isByTurns && m.twin == null);
        not(m.barred(year) || isByTurns && m.twin.barred(year));
        full(lots.size() == 30);
        List<Sheet> lot = new ArrayList<>();
        for (int i = 0; i < sheets; i++) {
            Sheet s = new Sheet();
            s.mould = isByTurns && i % 2 == 1 ? m.twin : m;
            s.year = year;
            s.lot = lots.size();
            lot.add(s);
        }
        m.uses.add(year);
        if (isByTurns) {
            m.twin.uses.add(year);
        }
        lots.add(lot);
        lotSizes.add(sheets);
        return lots.size() - 1;
    }

    public int ream(int mill) {
        in(mill, 0, 4);
        full(reams.size() == 20);
        reams.add(new ArrayList<>());
        reamMills.add(mill);
        return reams.size() - 1;
    }

    public int put(int ream, int lot, int sheets) {
        List<Sheet> to = at(reams, ream);
        List<Sheet> from = at(lots, lot);
        in(sheets, 1, 500);
        missing(from.size() < sheets);
        full(to.size() + sheets > 1000);
        to.addAll(from.subList(0, sheets));
        from.subList(0, sheets).clear();
        return to.size();
    }

    public int tariff(int ream) {
        List<Sheet> sheets = at(reams, ream);
        int mill = reamMills.get(ream);
        return 2 * (int) sheets.stream().filter(s -> s.mould.owner(s.year) != mill).count();
    }

    public int document(int year, int folds) {
        year(year);
        in(folds, 0, 3);
        full(documents.size() == 20);
        Document d = new Document();
        d.year = year;
        d.folds = folds;
        documents.add(d);
        return documents.size() - 1;
    }

    public int use(int document, int ream, int sheets) {
        Document d = at(documents, document);
        List<Sheet> from = at(reams, ream);
        in(sheets, 1, 50);
        missing(from.size() < sheets);
        List<Sheet> used = from.subList(0, sheets);
        not(used.stream().anyMatch(s -> s.year > d.year));
        full(d.sheets.size() + sheets > 100);
        d.sheets.addAll(used);
        used.clear();
        return d.sheets.size();
    }

    private static Sheet sheet(Document d, int sheet) {
        missing(sheet < 0 || sheet >= d.sheets.size());
        return d.sheets.get(sheet);
    }

    private static int leaves(Document d) {
        return new int[] {1, 2, 4, 8}[d.folds];
    }

    private static void leaf(Document d, int leaf) {
        missing(leaf < 1 || leaf > leaves(d));
    }

    private static String stock(Sheet s) {
        return s.mould.number + "/" + s.mould.state(s.year);
    }

    private static Sheet sheetOfLeaf(Document d, int sheet, int leaf) {
        int from = sheet;
        for (int[] c : d.cancelled) {
            from = c[0] == sheet && c[1] == leaf ? c[2] : from;
        }
        return d.sheets.get(from);
    }

    public boolean cancel(int document, int sheet, int leaf, int other) {
        Document d = at(documents, document);
        Sheet a = sheet(d, sheet);
        Sheet b = sheet(d, other);
        leaf(d, leaf);
        not(sheet == other);
        d.cancelled.add(new int[] {sheet, leaf, other});
        return !stock(a).equals(stock(b));
    }

    public int cancels(int document, int sheet) {
        Document d = at(documents, document);
        sheet(d, sheet);
        int leaves = 0;
        for (int leaf = 1; leaf <= leaves(d) && leaves(d) > 1; leaf++) {
            String here = stock(sheetOfLeaf(d, sheet, leaf));
            String there = stock(sheetOfLeaf(d, sheet, leaves(d) - leaf + 1));
            leaves += here.equals(there) ? 0 : 1;
        }
        return leaves / 2;
    }

    public int leafOf(int document, int sheet, int leaf) {
        Document d = at(documents, document);
        sheet(d, sheet);
        leaf(d, leaf);
        Sheet s = sheetOfLeaf(d, sheet, leaf);
        return 100 * s.mould.number + s.mould.state(s.year);
    }

    public int markIn(int document, int leaf) {
        Document d = at(documents, document);
        leaf(d, leaf);
        String[] marks = {"4", "40", "2002", "10011001"};
        return marks[d.folds].charAt(leaf - 1) - '0';
    }

    public int conjugate(int document, int leaf) {
        Document d = at(documents, document);
        leaf(d, leaf);
        missing(d.folds == 0);
        return 1 + leaves(d) - leaf;
    }

    public int run(int document, int other) {
        List<Sheet> a = at(documents, document).sheets;
        List<Sheet> b = at(documents, other).sheets;
        int[][] ending = new int[a.size() + 1][b.size() + 1];
        int longest = 0;
        for (int i = 1; i <= a.size(); i++) {
            for (int j = 1; j <= b.size(); j++) {
                if (stock(a.get(i - 1)).equals(stock(b.get(j - 1)))) {
                    ending[i][j] = ending[i - 1][j - 1] + 1;
                    longest = Math.max(longest, ending[i][j]);
                }
            }
        }
        return longest;
    }

    public boolean wash(int document) {
        Document d = at(documents, document);
        boolean was = d.washed;
        d.washed = true;
        return !was;
    }

    // ---- images

    public int image(int document, int sheet, int error, int seen) {
        Document d = at(documents, document);
        in(error, -20, 20);
        in(seen, 0, 255);
        Sheet s = sheet(d, sheet);
        full(images.size() == 40);
        Image image = new Image();
        image.mark = s.mould.mark;
        for (int i = 0; i < 4; i++) {
            int told = s.mould.distances[i];
            image.distances[i] = told - (d.washed ? told / 50 : 0) + error;
        }
        for (int w = 0; w < 8; w++) {
            image.kinds[w] = seen / (int) Math.pow(2, w) % 2 == 1 ? s.mould.kind(w, s.mould.state(s.year)) : -1;
        }
        images.add(image);
        return images.size() - 1;
    }

    public int setTolerance(int tolerance) {
        in(tolerance, 0, 50);
        int before = this.tolerance;
        this.tolerance = tolerance;
        return before;
    }

    public int distance(int image, int which) {
        Image i = at(images, image);
        in(which, 0, 3);
        return i.distances[which];
    }

    private char verdict(Image a, Image b) {
        if (a.mark != b.mark) {
            return 'm';
        }
        for (int i = 0; i < 4; i++) {
            if (a.distances[i] > b.distances[i] + tolerance || b.distances[i] > a.distances[i] + tolerance) {
                return 'c';
            }
        }
        int more = 0;
        int less = 0;
        for (int w = 0; w < 8; w++) {
            if (a.kinds[w] >= 0 && b.kinds[w] >= 0) {
                more += a.kinds[w] > b.kinds[w] ? 1 : 0;
                less += a.kinds[w] < b.kinds[w] ? 1 : 0;
            }
        }
        return more > 0 && less > 0 ? 'd' : less > 0 ? 'e' : more > 0 ? 'l' : 's';
    }

    public char compare(int first, int second) {
        return verdict(at(images, first), at(images, second));
    }

    public int evidence(int first, int second) {
        Image a = at(images, first);
        Image b = at(images, second);
        int sum = 0;
        for (int w = 0; w < 8; w++) {
            if (a.kinds[w] >= 0 && b.kinds[w] >= 0 && a.kinds[w] != b.kinds[w]) {
                sum += (int) Math.pow(2, w);
            }
        }
        return sum;
    }

    public int groups() {
        boolean[] reached = new boolean[images.size()];
        int groups = 0;
        for (int start = 0; start < reached.length; start++) {
            if (!reached[start]) {
                groups++;
                reach(start, reached);
            }
        }
        return groups;
    }

    private void reach(int image, boolean[] reached) {
        reached[image] = true;
        for (int other = 0; other < reached.length; other++) {
            if (!reached[other] && "els".indexOf(verdict(images.get(image), images.get(other))) >= 0) {
                reach(other, reached);
            }
        }
    }

    // ---- repertories

    private boolean[] allOne(int start) {
        boolean[] one = new boolean[400];
        one[start] = true;
        for (boolean grown = true; grown;) {
            grown = false;
            for (int[] m : merges) {
                if (one[m[0]] != one[m[1]]) {
                    one[m[0]] = true;
                    one[m[1]] = true;
                    grown = true;
                }
            }
        }
        return one;
    }

    public boolean merge(int contributor, int number, int other, int otherNumber) {
        in(contributor, 0, 3);
        in(number, 0, 99);
        in(other, 0, 3);
        in(otherNumber, 0, 99);
        int a = contributor * 100 + number;
        int b = other * 100 + otherNumber;
        boolean were = allOne(a)[b];
        merges.add(new int[] {a, b});
        return !were;
    }

    public int unmerge() {
        missing(merges.isEmpty());
        merges.remove(merges.size() - 1);
        return merges.size();
    }

    public int entry(int contributor, int number) {
        in(contributor, 0, 3);
        in(number, 0, 99);
        boolean[] one = allOne(contributor * 100 + number);
        int lowest = 0;
        while (!one[lowest]) {
            lowest++;
        }
        return lowest;
    }

    public int clashes() {
        int clashes = 0;
        for (int a = 0; a < 400; a++) {
            boolean[] one = allOne(a);
            boolean clashing = false;
            for (int b = a / 100 * 100; b < a / 100 * 100 + 100; b++) {
                clashing |= b != a && one[b];
            }
            clashes += clashing ? 1 : 0;
        }
        return clashes;
    }

    // ---- dating

    public int claim(int document, int mould, int state) {
        Document d = at(documents, document);
        at(moulds, mould);
        in(state, 0, 20);
        not(d.claims.stream().anyMatch(c -> c[0] == mould && c[1] == state));
        full(d.claims.size() == 6);
        d.claims.add(new int[] {mould, state});
        return d.claims.size();
    }

    public int unclaim(int document, int mould, int state) {
        Document d = at(documents, document);
        at(moulds, mould);
        missing(!d.claims.removeIf(c -> c[0] == mould && c[1] == state));
        return d.claims.size();
    }

    public int date(int document, int year) {
        Document d = at(documents, document);
        if (year != 0) {
            year(year);
        }
        int before = d.date;
        d.date = year;
        return before;
    }

    public int setAge(int years) {
        in(years, 0, 100);
        int before = age;
        age = years;
        return before;
    }

    /** The first and the last years of all documents, or null if nothing fits, the date of one aside. */
    private int[][] bounds(int aside) {
        int n = documents.size();
        int[][] years = new int[n][2];
        List<int[]> stocks = new ArrayList<>(); // document, mould, state, first, last
        for (int i = 0; i < n; i++) {
            Document d = documents.get(i);
            years[i] = d.date == 0 || i == aside ? new int[] {1400, 1900} : new int[] {d.date, d.date};
            for (int[] c : d.claims) {
                stocks.add(new int[] {i, c[0], c[1], 1400, 1900});
            }
        }
        for (boolean narrowed = true; narrowed;) {
            int before = sum(years, stocks);
            for (int[] s : stocks) {
                narrowByDocument(s, years[s[0]]);
                for (int[] t : stocks) {
                    if (s[1] == t[1] && s[2] < t[2]) {
                        t[3] = Math.max(t[3], s[3]);
                        s[4] = Math.min(s[4], t[4]);
                    }
                }
            }
            narrowed = sum(years, stocks) != before;
            if (Arrays.stream(years).anyMatch(y -> y[0] > y[1]) || stocks.stream().anyMatch(s -> s[3] > s[4])) {
                return null;
            }
        }
        return years;
    }

    private void narrowByDocument(int[] stock, int[] years) {
        stock[3] = Math.max(stock[3], years[0] - age);
        stock[4] = Math.min(stock[4], years[1]);
        years[0] = Math.max(years[0], stock[3]);
        years[1] = Math.min(years[1], stock[4] + age);
    }

    private static int sum(int[][] years, List<int[]> stocks) {
        int sum = 0;
        for (int[] y : years) {
            sum += y[1] - y[0];
        }
        for (int[] s : stocks) {
            sum += s[4] - s[3];
        }
        return sum;
    }

    public boolean fits() {
        return bounds(-1) != null;
    }

    public int year(int document, boolean isLast) {
        at(documents, document);
        int[][] bounds = bounds(-1);
        not(bounds == null);
        return bounds[document][isLast ? 1 : 0];
    }

    public int ground(int document, boolean isLast) {
        int bound = year(document, isLast);
        for (int i = 0; i < documents.size(); i++) {
            if (i != document && documents.get(i).date != 0) {
                int[][] without = bounds(i);
                if (without == null || without[document][isLast ? 1 : 0] != bound) {
                    return i;
                }
            }
        }
        throw new NoSuchElementException();
    }

    public int culprit() {
        not(fits());
        for (int i = 0; i < documents.size(); i++) {
            if (bounds(i) != null) {
                return i;
            }
        }
        throw new NoSuchElementException();
    }

    public char forged(int document, int pretended) {
        at(documents, document);
        year(pretended);
        int[][] bounds = bounds(document);
        not(bounds == null);
        return bounds[document][0] > pretended ? 'l' : bounds[document][1] < pretended ? 'e' : '-';
    }

    // ---- figures

    public long years() {
        int[][] bounds = bounds(-1);
        not(bounds == null);
        return Arrays.stream(bounds).mapToLong(b -> b[1] - b[0] + 1).sum();
    }

    public float usedShare() {
        int made = lotSizes.stream().mapToInt(s -> s).sum();
        if (made == 0) {
            throw new ArithmeticException();
        }
        return (float) documents.stream().mapToInt(d -> d.sheets.size()).sum() / (float) made;
    }

    public double meanAge() {
        int used = documents.stream().mapToInt(d -> d.sheets.size()).sum();
        missing(used == 0);
        return (double) documents.stream().mapToInt(d -> d.sheets.stream().mapToInt(s -> d.year - s.year).sum()).sum()
                / (double) used;
    }

    public boolean isSound() {
        return true;
    }
}
