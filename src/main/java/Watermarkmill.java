import java.util.ArrayList;
import java.util.Arrays;
import java.util.NoSuchElementException;

/** A study of paper: of what moulds it is, where it went, and to what years it brings undated documents. */
public final class Watermarkmill {
    private static final int FIRST_YEAR = 1400;
    private static final int LAST_YEAR = 1900;
    private static final int NO_YEAR = 0;
    private static final int NONE = -1;
    private static final int MOST_CALLS = 512;

    private static final int LAST_MILL = 4;
    private static final int LAST_MARK = 99;
    private static final int LEAST_DISTANCE = 100;
    private static final int MOST_DISTANCE = 400;
    private static final int DISTANCES = 4;
    private static final int WIRES = 8;
    private static final int WHOLE = 0;
    private static final int BENT = 1;
    private static final int BROKEN = 2;
    private static final int MOST_DAMAGES = BROKEN * WIRES;

    private static final int MOST_MOULDS = 12;
    private static final int MOST_LOTS = 30;
    private static final int MOST_REAMS = 20;
    private static final int MOST_DOCUMENTS = 20;
    private static final int MOST_IMAGES = 40;
    private static final int LOT_SHEETS = 500;
    private static final int PUT_SHEETS = 500;
    private static final int REAM_SHEETS = 1000;
    private static final int USE_SHEETS = 50;
    private static final int DOCUMENT_SHEETS = 100;
    private static final int MOST_FOLDS = 3;
    private static final int TARIFF = 2;

    private static final int MOST_ERROR = 20;
    private static final int ALL_SEEN = 255;
    private static final int MOST_TOLERANCE = 50;
    private static final int SHRINKING = 50;

    private static final int LAST_CONTRIBUTOR = 3;
    private static final int LAST_NUMBER = 99;
    private static final int NUMBERS = 100;
    private static final int ENTRIES = 400;

    private static final int LAST_STATE = 20;
    private static final int MOST_CLAIMS = 6;
    private static final int MOST_AGE = 100;

    // One number holds a pair: 100 times the one, plus the other, which is below 100.
    private static final int PAIR = 100;

    private final ArrayList<Mould> moulds = new ArrayList<>();
    private final ArrayList<Lot> lots = new ArrayList<>();
    private final ArrayList<Ream> reams = new ArrayList<>();
    private final ArrayList<Document> documents = new ArrayList<>();
    private final ArrayList<Image> images = new ArrayList<>();
    private final Repertory repertory = new Repertory();
    private final Dating dating = new Dating();
    private final int[] groupOfImage = new int[MOST_IMAGES];
    private int tolerance = 3;
    private int sales = 0;

    public Watermarkmill() {
    }

    // ---- moulds

    public int mould(int mill, int mark, int first, int second, int third, int fourth)
            throws IllegalArgumentException, IllegalStateException {
        checkRange(mill, 0, LAST_MILL);
        checkRange(mark, 0, LAST_MARK);
        checkRange(first, LEAST_DISTANCE, MOST_DISTANCE);
        checkRange(second, LEAST_DISTANCE, MOST_DISTANCE);
        checkRange(third, LEAST_DISTANCE, MOST_DISTANCE);
        checkRange(fourth, LEAST_DISTANCE, MOST_DISTANCE);
        checkRoom(moulds.size() + 1, MOST_MOULDS);
        moulds.add(new Mould(mill, mark, new int[] {first, second, third, fourth}));
        return moulds.size() - 1;
    }

    public int copy(int mould, int mill)
            throws IndexOutOfBoundsException, IllegalArgumentException, IllegalStateException {
        Mould original = mouldAt(mould);
        checkRange(mill, 0, LAST_MILL);
        checkRoom(moulds.size() + 1, MOST_MOULDS);
        moulds.add(new Mould(mill, original.mark, original.distances));
        return moulds.size() - 1;
    }

    public boolean twin(int mould, int other)
            throws IndexOutOfBoundsException, IllegalArgumentException, UnsupportedOperationException {
        Mould one = mouldAt(mould);
        Mould another = mouldAt(other);
        if (mould == other) {
            throw new IllegalArgumentException("a mould is not its own twin");
        }
        if (one.twin != NONE && one.twin != other || another.twin != NONE && another.twin != mould) {
            throw new UnsupportedOperationException("one of them has another twin");
        }
        boolean isNew = one.twin == NONE;
        one.twin = other;
        another.twin = mould;
        return isNew;
    }

    public int damage(int mould, int wire, boolean isBroken, int year)
            throws IndexOutOfBoundsException, IllegalArgumentException, UnsupportedOperationException {
        Mould damaged = mouldAt(mould);
        checkRange(wire, 0, WIRES - 1);
        checkYear(year);
        int damage = isBroken ? BROKEN : BENT;
        if (damage <= damaged.damageOf(wire, damaged.damages) || damaged.isClosedIn(year)) {
            throw new UnsupportedOperationException("the wire or the year does not allow this damage");
        }
        damaged.addDamage(wire, damage, year);
        return damaged.damages;
    }

    public int retire(int mould, int year)
            throws IndexOutOfBoundsException, IllegalArgumentException, UnsupportedOperationException {
        Mould retired = mouldAt(mould);
        checkYear(year);
        if (retired.retired != NO_YEAR || retired.isTouchedAfter(year)) {
            throw new UnsupportedOperationException("it is retired, or was damaged or used later");
        }
        retired.retired = year;
        return retired.damages + 1;
    }

    public int sell(int mould, int mill, int year)
            throws IndexOutOfBoundsException, IllegalArgumentException, UnsupportedOperationException {
        Mould sold = mouldAt(mould);
        checkRange(mill, 0, LAST_MILL);
        checkYear(year);
        int seller = sold.ownerIn(year);
        if (sold.isSoldAfter(year) || seller == mill) {
            throw new UnsupportedOperationException("it was sold later, or that is the owner");
        }
        // Only calls that are no longer promised can be refused here.
        if (sales < MOST_CALLS) {
            sold.lastSale = new Sale(mill, year, sold.lastSale);
            sales++;
        }
        return seller;
    }

    public int owner(int mould, int year) throws IndexOutOfBoundsException, IllegalArgumentException {
        Mould owned = mouldAt(mould);
        checkYear(year);
        return owned.ownerIn(year);
    }

    public int state(int mould, int year) throws IndexOutOfBoundsException, IllegalArgumentException {
        Mould looked = mouldAt(mould);
        checkYear(year);
        return looked.stateIn(year);
    }

    public char wire(int mould, int state, int wire)
            throws IndexOutOfBoundsException, IllegalArgumentException, NoSuchElementException {
        Mould looked = mouldAt(mould);
        checkRange(wire, 0, WIRES - 1);
        if (state < 0 || state > looked.damages) {
            throw new NoSuchElementException("no such state");
        }
        int damage = looked.damageOf(wire, state);
        return damage == WHOLE ? '-' : damage == BENT ? 'b' : 'x';
    }

    // ---- lots, reams, documents

    public int make(int mould, boolean isByTurns, int year, int sheets)
            throws IndexOutOfBoundsException, IllegalArgumentException, UnsupportedOperationException,
            IllegalStateException {
        Mould first = mouldAt(mould);
        checkYear(year);
        checkRange(sheets, 1, LOT_SHEETS);
        if (isByTurns && first.twin == NONE) {
            throw new UnsupportedOperationException("it has no twin");
        }
        int turn = isByTurns ? first.twin : mould;
        Mould second = mouldAt(turn);
        if (first.isClosedIn(year) || second.isClosedIn(year)) {
            throw new UnsupportedOperationException("a mould is not in use in this year");
        }
        checkRoom(lots.size() + 1, MOST_LOTS);
        first.lastUse = year;
        second.lastUse = year;
        lots.add(new Lot(mould, turn, year, sheets));
        return lots.size() - 1;
    }

    public int ream(int mill) throws IllegalArgumentException, IllegalStateException {
        checkRange(mill, 0, LAST_MILL);
        checkRoom(reams.size() + 1, MOST_REAMS);
        reams.add(new Ream(mill));
        return reams.size() - 1;
    }

    public int put(int ream, int lot, int sheets)
            throws IndexOutOfBoundsException, IllegalArgumentException, NoSuchElementException,
            IllegalStateException {
        Ream filled = reamAt(ream);
        Lot source = lotAt(lot);
        checkRange(sheets, 1, PUT_SHEETS);
        checkLeft(sheets, source.left());
        checkRoom(filled.count + sheets, REAM_SHEETS);
        for (int i = 0; i < sheets; i++) {
            filled.add(source.takeSheet());
        }
        return filled.count;
    }

    public int tariff(int ream) throws IndexOutOfBoundsException {
        Ream taxed = reamAt(ream);
        int tariff = 0;
        for (int i = 0; i < taxed.count; i++) {
            int sheet = taxed.sheets[i];
            if (mouldAt(mouldOf(sheet)).ownerIn(madeIn(sheet)) != taxed.mill) {
                tariff += TARIFF;
            }
        }
        return tariff;
    }

    public int document(int year, int folds) throws IllegalArgumentException, IllegalStateException {
        checkYear(year);
        checkRange(folds, 0, MOST_FOLDS);
        checkRoom(documents.size() + 1, MOST_DOCUMENTS);
        documents.add(new Document(year, 1 << folds));
        dating.addDocument();
        return documents.size() - 1;
    }

    public int use(int document, int ream, int sheets)
            throws IndexOutOfBoundsException, IllegalArgumentException, NoSuchElementException,
            UnsupportedOperationException, IllegalStateException {
        Document user = documentAt(document);
        Ream source = reamAt(ream);
        checkRange(sheets, 1, USE_SHEETS);
        checkLeft(sheets, source.count);
        for (int i = 0; i < sheets; i++) {
            if (madeIn(source.sheets[i]) > user.year) {
                throw new UnsupportedOperationException("a sheet was made later");
            }
        }
        checkRoom(user.count + sheets, DOCUMENT_SHEETS);
        for (int i = 0; i < sheets; i++) {
            user.add(source.sheets[i]);
        }
        source.dropFirst(sheets);
        return user.count;
    }

    public boolean cancel(int document, int sheet, int leaf, int other)
            throws IndexOutOfBoundsException, NoSuchElementException, UnsupportedOperationException {
        Document changed = documentAt(document);
        checkSheet(changed, sheet);
        checkSheet(changed, other);
        checkLeaf(changed, leaf);
        if (sheet == other) {
            throw new UnsupportedOperationException("both sheets are the same");
        }
        changed.replaceLeaf(sheet, leaf, other);
        return stockOf(changed.sheets[sheet]) != stockOf(changed.sheets[other]);
    }

    public int cancels(int document, int sheet) throws IndexOutOfBoundsException, NoSuchElementException {
        Document looked = documentAt(document);
        checkSheet(looked, sheet);
        int pairs = 0;
        // Each pair is met once, at its first leaf; the only leaf of an unfolded sheet is in none.
        for (int leaf = 1; leaf <= looked.leaves / 2; leaf++) {
            if (stockOfLeaf(looked, sheet, leaf) != stockOfLeaf(looked, sheet, looked.mateOf(leaf))) {
                pairs++;
            }
        }
        return pairs;
    }

    public int leafOf(int document, int sheet, int leaf) throws IndexOutOfBoundsException, NoSuchElementException {
        Document looked = documentAt(document);
        checkSheet(looked, sheet);
        checkLeaf(looked, leaf);
        return stockOfLeaf(looked, sheet, leaf);
    }

    public int markIn(int document, int leaf) throws IndexOutOfBoundsException, NoSuchElementException {
        Document looked = documentAt(document);
        checkLeaf(looked, leaf);
        switch (looked.leaves) {
            case 1:
                return 4;
            case 2:
                return leaf == 1 ? 4 : 0;
            case 4:
                return leaf == 1 || leaf == 4 ? 2 : 0;
            default:
                return leaf == 1 || leaf == 4 || leaf == 5 || leaf == 8 ? 1 : 0;
        }
    }

    public int conjugate(int document, int leaf) throws IndexOutOfBoundsException, NoSuchElementException {
        Document looked = documentAt(document);
        checkLeaf(looked, leaf);
        if (looked.leaves == 1) {
            throw new NoSuchElementException("the leaf hangs together with none");
        }
        return looked.mateOf(leaf);
    }

    public int run(int document, int other) throws IndexOutOfBoundsException {
        Document one = documentAt(document);
        Document another = documentAt(other);
        tellStocks(one);
        tellStocks(another);
        int longest = 0;
        for (int shift = 1 - one.count; shift < another.count; shift++) {
            longest = Math.max(longest, longestRun(one, another, shift));
        }
        return longest;
    }

    public boolean wash(int document) throws IndexOutOfBoundsException {
        Document washed = documentAt(document);
        boolean isFirst = !washed.isWashed;
        washed.isWashed = true;
        return isFirst;
    }

    // ---- images

    public int image(int document, int sheet, int error, int seen)
            throws IndexOutOfBoundsException, IllegalArgumentException, NoSuchElementException,
            IllegalStateException {
        Document traced = documentAt(document);
        checkRange(error, -MOST_ERROR, MOST_ERROR);
        checkRange(seen, 0, ALL_SEEN);
        checkSheet(traced, sheet);
        checkRoom(images.size() + 1, MOST_IMAGES);
        int paper = traced.sheets[sheet];
        Mould mould = mouldAt(mouldOf(paper));
        Image image = new Image(mould.mark, seen);
        for (int which = 0; which < DISTANCES; which++) {
            int distance = mould.distances[which];
            int shrinking = traced.isWashed ? distance / SHRINKING : 0;
            image.distances[which] = distance - shrinking + error;
        }
        int state = mould.stateIn(madeIn(paper));
        for (int wire = 0; wire < WIRES; wire++) {
            image.damages[wire] = mould.damageOf(wire, state);
        }
        images.add(image);
        return images.size() - 1;
    }

    public int setTolerance(int tolerance) throws IllegalArgumentException {
        checkRange(tolerance, 0, MOST_TOLERANCE);
        int before = this.tolerance;
        this.tolerance = tolerance;
        return before;
    }

    public int distance(int image, int which) throws IndexOutOfBoundsException, IllegalArgumentException {
        Image looked = imageAt(image);
        checkRange(which, 0, DISTANCES - 1);
        return looked.distances[which];
    }

    public char compare(int first, int second) throws IndexOutOfBoundsException {
        return verdictOn(imageAt(first), imageAt(second));
    }

    public int evidence(int first, int second) throws IndexOutOfBoundsException {
        Image one = imageAt(first);
        Image another = imageAt(second);
        return one.moreDamagedThan(another) | another.moreDamagedThan(one);
    }

    public int groups() {
        int groups = images.size();
        for (int i = 0; i < images.size(); i++) {
            groupOfImage[i] = i;
        }
        for (int i = 0; i < images.size(); i++) {
            for (int j = i + 1; j < images.size(); j++) {
                if (groupOfImage[i] != groupOfImage[j] && isOneGroup(images.get(i), images.get(j))) {
                    joinGroups(groupOfImage[i], groupOfImage[j]);
                    groups--;
                }
            }
        }
        return groups;
    }

    // ---- repertories

    public boolean merge(int contributor, int number, int other, int otherNumber) throws IllegalArgumentException {
        checkEntry(contributor, number);
        checkEntry(other, otherNumber);
        return repertory.join(PAIR * contributor + number, PAIR * other + otherNumber);
    }

    public int unmerge() throws NoSuchElementException {
        if (repertory.mergings == 0) {
            throw new NoSuchElementException("no merging is left");
        }
        repertory.takeBack();
        return repertory.mergings;
    }

    public int entry(int contributor, int number) throws IllegalArgumentException {
        checkEntry(contributor, number);
        return repertory.lowestOf(PAIR * contributor + number);
    }

    public int clashes() {
        int clashes = 0;
        for (int contributor = 0; contributor <= LAST_CONTRIBUTOR; contributor++) {
            clashes += repertory.clashesAmong(PAIR * contributor, PAIR * contributor + NUMBERS);
        }
        return clashes;
    }

    // ---- dating

    public int claim(int document, int mould, int state)
            throws IndexOutOfBoundsException, IllegalArgumentException, UnsupportedOperationException,
            IllegalStateException {
        documentAt(document);
        mouldAt(mould);
        checkRange(state, 0, LAST_STATE);
        if (dating.isClaimed(document, mould, state)) {
            throw new UnsupportedOperationException("it is claimed already");
        }
        checkRoom(dating.stocks[document] + 1, MOST_CLAIMS);
        dating.addClaim(document, mould, state);
        return dating.stocks[document];
    }

    public int unclaim(int document, int mould, int state) throws IndexOutOfBoundsException, NoSuchElementException {
        documentAt(document);
        mouldAt(mould);
        if (state < 0 || state > LAST_STATE || !dating.isClaimed(document, mould, state)) {
            throw new NoSuchElementException("it is not claimed");
        }
        dating.dropClaim(document, mould, state);
        return dating.stocks[document];
    }

    public int date(int document, int year) throws IndexOutOfBoundsException, IllegalArgumentException {
        documentAt(document);
        if (year != NO_YEAR) {
            checkYear(year);
        }
        int before = dating.dates[document];
        dating.dates[document] = year;
        return before;
    }

    public int setAge(int years) throws IllegalArgumentException {
        checkRange(years, 0, MOST_AGE);
        int before = dating.age;
        dating.age = years;
        return before;
    }

    public boolean fits() {
        return dating.fitsWithout(NONE);
    }

    public int year(int document, boolean isLast) throws IndexOutOfBoundsException, UnsupportedOperationException {
        documentAt(document);
        checkFits(NONE);
        return dating.boundWithout(NONE, document, isLast);
    }

    public int ground(int document, boolean isLast)
            throws IndexOutOfBoundsException, UnsupportedOperationException, NoSuchElementException {
        documentAt(document);
        checkFits(NONE);
        int bound = dating.boundWithout(NONE, document, isLast);
        for (int other = 0; other < documents.size(); other++) {
            if (other != document && dating.boundWithout(other, document, isLast) != bound) {
                return other;
            }
        }
        throw new NoSuchElementException("the bound rests on no other date");
    }

    public int culprit() throws UnsupportedOperationException, NoSuchElementException {
        if (dating.fitsWithout(NONE)) {
            throw new UnsupportedOperationException("all fits");
        }
        for (int document = 0; document < documents.size(); document++) {
            if (dating.fitsWithout(document)) {
                return document;
            }
        }
        throw new NoSuchElementException("no single date is the culprit");
    }

    public char forged(int document, int pretended)
            throws IndexOutOfBoundsException, IllegalArgumentException, UnsupportedOperationException {
        documentAt(document);
        checkYear(pretended);
        checkFits(document);
        if (dating.boundWithout(document, document, false) > pretended) {
            return 'l';
        }
        return dating.boundWithout(document, document, true) < pretended ? 'e' : '-';
    }

    // ---- figures

    public long years() throws UnsupportedOperationException {
        checkFits(NONE);
        long years = 0;
        for (int document = 0; document < documents.size(); document++) {
            int first = dating.boundWithout(NONE, document, false);
            int last = dating.boundWithout(NONE, document, true);
            years += last - first + 1;
        }
        return years;
    }

    public float usedShare() throws ArithmeticException {
        int made = sheetsMade();
        if (made == 0) {
            throw new ArithmeticException("no sheet was made");
        }
        return (float) sheetsInDocuments() / (float) made;
    }

    public double meanAge() throws NoSuchElementException {
        int used = sheetsInDocuments();
        if (used == 0) {
            throw new NoSuchElementException("no sheet was used");
        }
        int ages = 0;
        for (int i = 0; i < documents.size(); i++) {
            Document document = documents.get(i);
            for (int sheet = 0; sheet < document.count; sheet++) {
                ages += document.year - madeIn(document.sheets[sheet]);
            }
        }
        return (double) ages / (double) used;
    }

    public boolean isSound() {
        return sheetsInLots() + sheetsInReams() + sheetsInDocuments() == sheetsMade()
                && isDamageKept() && isPaperInTime() && isDatedAsTold();
    }

    // ---- what the calls share: looking up, checking

    private Mould mouldAt(int number) {
        if (number < 0 || number >= moulds.size()) {
            throw new IndexOutOfBoundsException("no such mould");
        }
        return moulds.get(number);
    }

    private Lot lotAt(int number) {
        if (number < 0 || number >= lots.size()) {
            throw new IndexOutOfBoundsException("no such lot");
        }
        return lots.get(number);
    }

    private Ream reamAt(int number) {
        if (number < 0 || number >= reams.size()) {
            throw new IndexOutOfBoundsException("no such ream");
        }
        return reams.get(number);
    }

    private Document documentAt(int number) {
        if (number < 0 || number >= documents.size()) {
            throw new IndexOutOfBoundsException("no such document");
        }
        return documents.get(number);
    }

    private Image imageAt(int number) {
        if (number < 0 || number >= images.size()) {
            throw new IndexOutOfBoundsException("no such image");
        }
        return images.get(number);
    }

    private static void checkRange(int number, int least, int most) {
        if (number < least || number > most) {
            throw new IllegalArgumentException("a number is out of range");
        }
    }

    private static void checkYear(int year) {
        checkRange(year, FIRST_YEAR, LAST_YEAR);
    }

    private static void checkEntry(int contributor, int number) {
        checkRange(contributor, 0, LAST_CONTRIBUTOR);
        checkRange(number, 0, LAST_NUMBER);
    }

    private static void checkRoom(int wanted, int most) {
        if (wanted > most) {
            throw new IllegalStateException("there is no room for more");
        }
    }

    private static void checkLeft(int wanted, int left) {
        if (wanted > left) {
            throw new NoSuchElementException("fewer sheets are left");
        }
    }

    private static void checkSheet(Document document, int sheet) {
        if (sheet < 0 || sheet >= document.count) {
            throw new NoSuchElementException("no such sheet");
        }
    }

    private static void checkLeaf(Document document, int leaf) {
        if (leaf < 1 || leaf > document.leaves) {
            throw new NoSuchElementException("no such leaf");
        }
    }

    private void checkFits(int aside) {
        if (!dating.fitsWithout(aside)) {
            throw new UnsupportedOperationException("nothing fits");
        }
    }

    // ---- what the calls share: sheets and their stocks

    /** A sheet is told by the year in which it was made and its mould, as one number. */
    private static int sheetOf(int mould, int year) {
        return PAIR * year + mould;
    }

    private static int mouldOf(int sheet) {
        return sheet % PAIR;
    }

    private static int madeIn(int sheet) {
        return sheet / PAIR;
    }

    private int stockOf(int sheet) {
        int mould = mouldOf(sheet);
        return PAIR * mould + mouldAt(mould).stateIn(madeIn(sheet));
    }

    private int stockOfLeaf(Document document, int sheet, int leaf) {
        return stockOf(document.sheets[document.sourceOf(sheet, leaf)]);
    }

    /** Damage that is told later can change the stock of a sheet, so stocks are told anew for each call. */
    private void tellStocks(Document document) {
        for (int sheet = 0; sheet < document.count; sheet++) {
            document.stocks[sheet] = stockOf(document.sheets[sheet]);
        }
    }

    /** The longest run of equal stocks, if each sheet of the one is laid on the other's that is 'shift' further. */
    private static int longestRun(Document one, Document another, int shift) {
        int longest = 0;
        int length = 0;
        int start = Math.max(0, -shift);
        int end = Math.min(one.count, another.count - shift);
        for (int sheet = start; sheet < end; sheet++) {
            length = one.stocks[sheet] == another.stocks[sheet + shift] ? length + 1 : 0;
            longest = Math.max(longest, length);
        }
        return longest;
    }

    // ---- what the calls share: images

    private char verdictOn(Image first, Image second) {
        if (first.mark != second.mark) {
            return 'm';
        }
        if (!first.isNear(second, tolerance)) {
            return 'c';
        }
        boolean isFirstMore = first.moreDamagedThan(second) != 0;
        boolean isSecondMore = second.moreDamagedThan(first) != 0;
        if (isFirstMore && isSecondMore) {
            return 'd';
        }
        return isSecondMore ? 'e' : isFirstMore ? 'l' : 's';
    }

    private boolean isOneGroup(Image first, Image second) {
        char verdict = verdictOn(first, second);
        return verdict == 'e' || verdict == 'l' || verdict == 's';
    }

    private void joinGroups(int kept, int ended) {
        for (int i = 0; i < images.size(); i++) {
            if (groupOfImage[i] == ended) {
                groupOfImage[i] = kept;
            }
        }
    }

    // ---- what the calls share: figures

    private int sheetsMade() {
        int sheets = 0;
        for (int i = 0; i < lots.size(); i++) {
            sheets += lots.get(i).sheets;
        }
        return sheets;
    }

    private int sheetsInLots() {
        int sheets = 0;
        for (int i = 0; i < lots.size(); i++) {
            sheets += lots.get(i).left();
        }
        return sheets;
    }

    private int sheetsInReams() {
        int sheets = 0;
        for (int i = 0; i < reams.size(); i++) {
            sheets += reams.get(i).count;
        }
        return sheets;
    }

    private int sheetsInDocuments() {
        int sheets = 0;
        for (int i = 0; i < documents.size(); i++) {
            sheets += documents.get(i).count;
        }
        return sheets;
    }

    private boolean isDamageKept() {
        for (int i = 0; i < moulds.size(); i++) {
            if (!moulds.get(i).isDamageKept()) {
                return false;
            }
        }
        return true;
    }

    private boolean isPaperInTime() {
        for (int i = 0; i < documents.size(); i++) {
            Document document = documents.get(i);
            for (int sheet = 0; sheet < document.count; sheet++) {
                if (madeIn(document.sheets[sheet]) > document.year) {
                    return false;
                }
            }
        }
        return true;
    }

    private boolean isDatedAsTold() {
        if (!dating.fitsWithout(NONE)) {
            return true;
        }
        for (int document = 0; document < documents.size(); document++) {
            int date = dating.dates[document];
            if (date != NO_YEAR && (dating.boundWithout(NONE, document, false) != date
                    || dating.boundWithout(NONE, document, true) != date)) {
                return false;
            }
        }
        return true;
    }

    // ---- the parts of a study

    /** A sale of a mould; those before it hang behind it. */
    private static final class Sale {
        final int mill;
        final int year;
        final Sale earlier;

        Sale(int mill, int year, Sale earlier) {
            this.mill = mill;
            this.year = year;
            this.earlier = earlier;
        }
    }

    /** A mould with its history; each damage, in the order in which it was told, begins a state. */
    private static final class Mould {
        final int mill;
        final int mark;
        final int[] distances;
        final int[] damagedWires = new int[MOST_DAMAGES];
        final int[] damageKinds = new int[MOST_DAMAGES];
        final int[] damageYears = new int[MOST_DAMAGES];
        int damages = 0;
        int twin = NONE;
        int retired = NO_YEAR;
        int lastUse = NO_YEAR;
        Sale lastSale = null;

        Mould(int mill, int mark, int[] distances) {
            this.mill = mill;
            this.mark = mark;
            this.distances = distances;
        }

        void addDamage(int wire, int kind, int year) {
            if (damages < MOST_DAMAGES) {
                damagedWires[damages] = wire;
                damageKinds[damages] = kind;
                damageYears[damages] = year;
                damages++;
            }
        }

        int damageOf(int wire, int state) {
            int kind = WHOLE;
            for (int i = 0; i < state && i < damages; i++) {
                if (damagedWires[i] == wire) {
                    kind = damageKinds[i];
                }
            }
            return kind;
        }

        int stateIn(int year) {
            int state = 0;
            for (int i = 0; i < damages; i++) {
                if (damageYears[i] <= year) {
                    state++;
                }
            }
            return state;
        }

        int ownerIn(int year) {
            for (Sale sale = lastSale; sale != null; sale = sale.earlier) {
                if (sale.year <= year) {
                    return sale.mill;
                }
            }
            return mill;
        }

        boolean isSoldAfter(int year) {
            return lastSale != null && lastSale.year > year;
        }

        boolean isTouchedAfter(int year) {
            return lastUse > year || stateIn(year) < damages;
        }

        /** Neither use nor damage can be told of this year: the mould's years do not go back, nor beyond its end. */
        boolean isClosedIn(int year) {
            return retired != NO_YEAR && retired != year || isTouchedAfter(year);
        }

        boolean isDamageKept() {
            for (int wire = 0; wire < WIRES; wire++) {
                for (int state = 1; state <= damages; state++) {
                    if (damageOf(wire, state) < damageOf(wire, state - 1)) {
                        return false;
                    }
                }
            }
            return true;
        }
    }

    /** A lot of one mould, or of two that take turns. */
    private static final class Lot {
        final int mould;
        final int turn;
        final int year;
        final int sheets;
        int taken = 0;

        Lot(int mould, int turn, int year, int sheets) {
            this.mould = mould;
            this.turn = turn;
            this.year = year;
            this.sheets = sheets;
        }

        int left() {
            return sheets - taken;
        }

        int takeSheet() {
            int sheet = sheetOf(taken % 2 == 0 ? mould : turn, year);
            taken++;
            return sheet;
        }
    }

    /** A ream with the sheets that are left in it. */
    private static final class Ream {
        final int mill;
        final int[] sheets = new int[REAM_SHEETS];
        int count = 0;

        Ream(int mill) {
            this.mill = mill;
        }

        void add(int sheet) {
            if (count < REAM_SHEETS) {
                sheets[count] = sheet;
                count++;
            }
        }

        void dropFirst(int number) {
            if (number >= 0 && number <= count) {
                System.arraycopy(sheets, number, sheets, 0, count - number);
                count -= number;
            }
        }
    }

    /** A document with its sheets, and of each leaf that was cancelled the sheet from which it is now. */
    private static final class Document {
        final int year;
        final int leaves;
        final int[] sheets = new int[DOCUMENT_SHEETS];
        final int[] stocks = new int[DOCUMENT_SHEETS];
        final int[] sources;
        int count = 0;
        boolean isWashed = false;

        Document(int year, int leaves) {
            this.year = year;
            this.leaves = leaves;
            this.sources = new int[DOCUMENT_SHEETS * leaves];
        }

        void add(int sheet) {
            if (count < DOCUMENT_SHEETS) {
                sheets[count] = sheet;
                for (int leaf = 1; leaf <= leaves; leaf++) {
                    replaceLeaf(count, leaf, count);
                }
                count++;
            }
        }

        void replaceLeaf(int sheet, int leaf, int source) {
            sources[sheet * leaves + leaf - 1] = source;
        }

        int sourceOf(int sheet, int leaf) {
            return sources[sheet * leaves + leaf - 1];
        }

        int mateOf(int leaf) {
            return leaves + 1 - leaf;
        }
    }

    /** What a tracing saw, as the sheet was when it was made. */
    private static final class Image {
        final int mark;
        final int seen;
        final int[] distances = new int[DISTANCES];
        final int[] damages = new int[WIRES];

        Image(int mark, int seen) {
            this.mark = mark;
            this.seen = seen;
        }

        boolean isNear(Image other, int tolerance) {
            for (int which = 0; which < DISTANCES; which++) {
                if (Math.abs(distances[which] - other.distances[which]) > tolerance) {
                    return false;
                }
            }
            return true;
        }

        /** The wires that both see and that are more damaged here, as a sum of powers of 2. */
        int moreDamagedThan(Image other) {
            int wires = 0;
            for (int wire = 0; wire < WIRES; wire++) {
                if (damages[wire] > other.damages[wire]) {
                    wires |= 1 << wire;
                }
            }
            return wires & seen & other.seen;
        }
    }

    /** The numbers of all contributors; each hangs below a lower one with which it is one, or below itself. */
    private static final class Repertory {
        final int[] above = new int[ENTRIES];
        // Chains are never shortened, so that a merging is taken back by cutting the one link that it made.
        final int[] linked = new int[MOST_CALLS];
        final int[] tally = new int[ENTRIES];
        int mergings = 0;

        Repertory() {
            for (int entry = 0; entry < ENTRIES; entry++) {
                above[entry] = entry;
            }
        }

        int lowestOf(int entry) {
            int lowest = entry;
            for (int step = 0; step < ENTRIES && above[lowest] != lowest; step++) {
                lowest = above[lowest];
            }
            return lowest;
        }

        boolean join(int entry, int other) {
            int one = lowestOf(entry);
            int another = lowestOf(other);
            // Only calls that are no longer promised can be refused here.
            if (mergings < MOST_CALLS) {
                int link = one == another ? NONE : Math.max(one, another);
                if (link != NONE) {
                    above[link] = Math.min(one, another);
                }
                linked[mergings] = link;
                mergings++;
            }
            return one != another;
        }

        void takeBack() {
            if (mergings > 0) {
                mergings--;
                int link = linked[mergings];
                if (link != NONE) {
                    above[link] = link;
                }
            }
        }

        /** How many of the entries from 'first' to ahead of 'end' are one with another one of them. */
        int clashesAmong(int first, int end) {
            Arrays.fill(tally, 0);
            int clashes = 0;
            for (int entry = first; entry < end; entry++) {
                int lowest = lowestOf(entry);
                tally[lowest]++;
                // The second one that is met makes the first one clash, too.
                clashes += tally[lowest] == 1 ? 0 : tally[lowest] == 2 ? 2 : 1;
            }
            return clashes;
        }
    }

    /**
     * What is claimed of documents, and the years that follow. If one document has a state of a mould and another one
     * a later state, the sheets of the first are not later than those of the second, so that the first one's year is
     * at most the greatest age above the second one's. No other relation joins two documents; so a date of one bears
     * on another by the age times the fewest such steps that lead from the one to the other.
     */
    private static final class Dating {
        static final int FAR = 1000;

        final int[] dates = new int[MOST_DOCUMENTS];
        final int[] stocks = new int[MOST_DOCUMENTS];
        // Of a document and a mould, the states that are claimed, as a sum of powers of 2.
        final int[][] claims = new int[MOST_DOCUMENTS][MOST_MOULDS];
        // From a document to a later one, how many steps it takes at least; FAR if none lead there.
        final int[][] steps = new int[MOST_DOCUMENTS][MOST_DOCUMENTS];
        int documents = 0;
        int age = 12;

        void addDocument() {
            if (documents < MOST_DOCUMENTS) {
                documents++;
                tellSteps();
            }
        }

        boolean isClaimed(int document, int mould, int state) {
            return (claims[document][mould] & (1 << state)) != 0;
        }

        void addClaim(int document, int mould, int state) {
            claims[document][mould] |= 1 << state;
            stocks[document]++;
            tellSteps();
        }

        void dropClaim(int document, int mould, int state) {
            claims[document][mould] &= ~(1 << state);
            stocks[document]--;
            tellSteps();
        }

        void tellSteps() {
            for (int from = 0; from < documents; from++) {
                for (int to = 0; to < documents; to++) {
                    steps[from][to] = from == to ? 0 : isEarlierStock(from, to) ? 1 : FAR;
                }
            }
            for (int over = 0; over < documents; over++) {
                for (int from = 0; from < documents; from++) {
                    if (steps[from][over] < FAR) {
                        shortenSteps(from, over);
                    }
                }
            }
        }

        void shortenSteps(int from, int over) {
            for (int to = 0; to < documents; to++) {
                steps[from][to] = Math.min(steps[from][to], steps[from][over] + steps[over][to]);
            }
        }

        /** Whether some mould has a state claimed of the one document, and a later one of the other. */
        boolean isEarlierStock(int one, int other) {
            for (int mould = 0; mould < MOST_MOULDS; mould++) {
                int states = claims[one][mould];
                int lowest = states & -states;
                if (states != 0 && claims[other][mould] >= 2 * lowest) {
                    return true;
                }
            }
            return false;
        }

        boolean fitsWithout(int aside) {
            for (int document = 0; document < documents; document++) {
                if (hasDate(document, aside) && boundWithout(aside, document, false) > dates[document]) {
                    return false;
                }
            }
            return true;
        }

        /** The first or last year of a document, as if the document 'aside' had no date. */
        int boundWithout(int aside, int document, boolean isLast) {
            return isLast ? lastYear(document, aside) : firstYear(document, aside);
        }

        int firstYear(int document, int aside) {
            int year = FIRST_YEAR;
            for (int other = 0; other < documents; other++) {
                if (hasDate(other, aside) && steps[other][document] < FAR) {
                    year = Math.max(year, dates[other] - age * steps[other][document]);
                }
            }
            return year;
        }

        int lastYear(int document, int aside) {
            int year = LAST_YEAR;
            for (int other = 0; other < documents; other++) {
                if (hasDate(other, aside) && steps[document][other] < FAR) {
                    year = Math.min(year, dates[other] + age * steps[document][other]);
                }
            }
            return year;
        }

        boolean hasDate(int document, int aside) {
            return document != aside && dates[document] != NO_YEAR;
        }
    }
}
