import java.util.Random;

/** The document's "Terms", sentence by sentence; each check begins with the paragraph and some words of its sentence. */
final class TermsTest {
    private static final char[] KINDS = {'-', 'b', 'x'};

    public static void main(String[] args) {
        damageDoesNotUndo();
        statePrecedes();
        sheetHasOneMould();
        dateTakenBack();
        years();
        moulds();
        mouldsInYears();
        owners();
        lots();
        reams();
        tariffs();
        documents();
        leaves();
        stocks();
        tracings();
        fits();
        verdicts();
        repertories();
        dating();
        grounds();
        forgeries();
        exceptions();
        Check.end();
    }

    private static Watermarkmill study(int moulds) {
        Watermarkmill x = new Watermarkmill();
        for (int mould = 0; mould < moulds; mould++) {
            x.mould(mould % 5, mould, 200, 210, 220, 230);
        }
        return x;
    }

    private static Watermarkmill dated(int documents) {
        Watermarkmill x = study(3);
        for (int document = 0; document < documents; document++) {
            x.document(1500, 0);
        }
        return x;
    }

    /** A lot of the mould in the year, all of it in a ream of its own; returns the ream. */
    private static int reamOf(Watermarkmill x, int mould, boolean isByTurns, int year, int sheets) {
        int lot = x.make(mould, isByTurns, year, sheets);
        int ream = x.ream(0);
        x.put(ream, lot, sheets);
        return ream;
    }

    private static String bounds(Watermarkmill x, int document) {
        return x.year(document, false) + "-" + x.year(document, true);
    }

    // ---- the first sentence

    private static void damageDoesNotUndo() {
        Random random = new Random(1);
        for (int round = 0; round < 20; round++) {
            Watermarkmill x = study(1);
            int states = 1;
            for (int i = 0; i < 60; i++) {
                int wire = random.nextInt(8);
                boolean isBroken = random.nextBoolean();
                char now = x.wire(0, states - 1, wire);
                boolean isMore = now == '-' || now == 'b' && isBroken;
                Object want = isMore ? states : Check.UNSUPPORTED.getName();
                Check.due("Damage, more or refused", Check.outcome(() -> x.damage(0, wire, isBroken, 1500)), want);
                states += isMore ? 1 : 0;
            }
            for (int state = 1; state < states; state++) {
                int changed = 0;
                for (int wire = 0; wire < 8; wire++) {
                    int before = kind(x.wire(0, state - 1, wire));
                    int then = kind(x.wire(0, state, wire));
                    Check.due("Damage does not undo", then >= before, true);
                    changed += then > before ? 1 : 0;
                }
                Check.due("Damage, each is a new state", changed, 1);
            }
        }
    }

    private static int kind(char sign) {
        return sign == KINDS[0] ? 0 : sign == KINDS[1] ? 1 : 2;
    }

    private static void statePrecedes() {
        Watermarkmill x = study(1);
        x.document(1900, 0);
        int before = 0;
        for (int i = 0; i < 8; i++) {
            int ream = reamOf(x, 0, false, 1500 + i, 2);
            x.damage(0, i, false, 1500 + i + i % 2);
            x.use(0, ream, 2);
            int state = x.leafOf(0, 2 * i, 1);
            Check.due("a state precedes a later one in all sheets", state >= before, true);
            Check.due("a state is one in all sheets of a year", x.leafOf(0, 2 * i + 1, 1), state);
            before = state;
        }
        Check.due("a state, at last", before, 7);
    }

    private static void sheetHasOneMould() {
        Watermarkmill x = study(2);
        x.twin(0, 1);
        x.document(1500, 3);
        x.use(0, reamOf(x, 0, true, 1500, 4), 4);
        for (int sheet = 0; sheet < 4; sheet++) {
            Check.due("a sheet has one mould", x.cancels(0, sheet), 0);
            for (int leaf = 1; leaf <= 8; leaf++) {
                Check.due("a sheet has one mould", x.leafOf(0, sheet, leaf), 100 * (sheet % 2));
            }
        }
    }

    /** Just those bounds move that rested on the date; the ground tells the lowest date that does so. */
    private static void dateTakenBack() {
        for (int seed = 0; seed < 200; seed++) {
            Random random = new Random(seed);
            Watermarkmill x = dated(6);
            for (int i = 0; i < 12; i++) {
                int document = random.nextInt(6);
                Check.outcome(() -> x.claim(document, random.nextInt(2), random.nextInt(4)));
            }
            for (int document = 0; document < 5; document++) {
                x.date(document, 1500 + random.nextInt(16));
                if (!x.fits()) {
                    x.date(document, 0);
                }
            }
            takeEachBack(x, "a date taken back, study " + seed);
        }
    }

    private static void takeEachBack(Watermarkmill x, String what) {
        for (int taken = 0; taken < 6; taken++) {
            String[] before = new String[12];
            Object[] grounds = new Object[12];
            for (int i = 0; i < 12; i++) {
                int document = i / 2;
                boolean isLast = i % 2 == 1;
                before[i] = "" + x.year(document, isLast);
                grounds[i] = Check.outcome(() -> x.ground(document, isLast));
            }
            int date = x.date(taken, 0);
            for (int i = 0; i < 12; i++) {
                boolean isMoved = !before[i].equals("" + x.year(i / 2, i % 2 == 1));
                if (i / 2 != taken && grounds[i].equals(taken)) {
                    Check.due(what + ": it moves what rested on it", isMoved, true);
                } else if (i / 2 != taken && !(grounds[i] instanceof Integer && (Integer) grounds[i] < taken)) {
                    Check.due(what + ": nothing else", isMoved, false);
                }
            }
            x.date(taken, date);
            for (int i = 0; i < 12; i++) {
                Check.due(what + ": told again", "" + x.year(i / 2, i % 2 == 1), before[i]);
            }
        }
    }

    private static void years() {
        for (int year : new int[] {1399, 1400, 1900, 1901, 0, -1500}) {
            boolean isYear = year == 1400 || year == 1900;
            Object refused = Check.ARGUMENT.getName();
            yearOf("damage", isYear, x -> x.damage(0, 0, true, year), refused);
            yearOf("retire", isYear, x -> x.retire(0, year), refused);
            yearOf("sell", isYear, x -> x.sell(0, 1, year), refused);
            yearOf("owner", isYear, x -> x.owner(0, year), refused);
            yearOf("state", isYear, x -> x.state(0, year), refused);
            yearOf("make", isYear, x -> x.make(0, false, year, 1), refused);
            yearOf("document", isYear, x -> x.document(year, 0), refused);
            yearOf("date", isYear || year == 0, x -> x.date(0, year), refused);
            yearOf("forged", isYear, x -> x.forged(0, year), refused);
        }
    }

    private static void yearOf(String call, boolean isYear, Edge.Call on, Object refused) {
        Watermarkmill x = dated(1);
        Check.due("Years are from 1400 to 1900: " + call, refused.equals(Check.outcome(() -> on.on(x))), !isYear);
    }

    // ---- moulds

    private static void moulds() {
        Watermarkmill x = new Watermarkmill();
        for (int mould = 0; mould < 12; mould++) {
            Check.due("Moulds are numbered from 0", x.mould(mould % 5, 99 - mould, 100, 400, 100, 400), mould);
        }
        Check.thrown("Moulds, at most 12", Check.STATE, () -> x.mould(0, 0, 100, 100, 100, 100));
        for (int wire = 0; wire < 8; wire++) {
            Check.due("Moulds, eight wires, whole at first", x.wire(11, 0, wire), '-');
        }
        Check.due("Moulds, a wire is bent", x.damage(0, 7, false, 1500), 1);
        Check.due("Moulds, a bent one can be broken later", x.damage(0, 7, true, 1501), 2);
        Check.due("Moulds, the states are numbered from 0", "" + x.wire(0, 0, 7) + x.wire(0, 1, 7) + x.wire(0, 2, 7),
                "-bx");
        Check.due("Moulds, twins if it was told", x.twin(4, 7), true);
        Check.thrown("Moulds, no twin if it was not", Check.UNSUPPORTED, () -> x.make(5, true, 1500, 1));
        copies();
    }

    private static void copies() {
        Watermarkmill x = new Watermarkmill();
        x.mould(0, 42, 101, 202, 303, 400);
        x.damage(0, 0, true, 1500);
        int copy = x.copy(0, 3);
        x.document(1500, 0);
        x.use(0, reamOf(x, 0, false, 1500, 1), 1);
        x.use(0, reamOf(x, copy, false, 1500, 1), 1);
        x.image(0, 0, 0, 0);
        x.image(0, 1, 0, 0);
        x.setTolerance(0);
        Check.due("A copy has the mark and the distances", x.compare(0, 1), 's');
        Check.due("A copy has no damage", x.state(copy, 1900), 0);
        Check.due("A copy is of its own mill", x.owner(copy, 1500), 3);
    }

    private static void mouldsInYears() {
        Watermarkmill x = study(2);
        x.damage(0, 0, true, 1500);
        x.make(0, false, 1510, 1);
        Check.thrown("The years do not go back: damage", Check.UNSUPPORTED, () -> x.damage(0, 1, true, 1509));
        Check.thrown("The years do not go back: make", Check.UNSUPPORTED, () -> x.make(0, false, 1509, 1));
        Check.thrown("The years do not go back: retire", Check.UNSUPPORTED, () -> x.retire(0, 1509));
        Check.due("The years of one mould", x.damage(1, 1, true, 1400), 1);
        Check.due("retired in a year", x.retire(0, 1520), 2);
        Check.thrown("nothing is made of it later", Check.UNSUPPORTED, () -> x.make(0, false, 1521, 1));
        Check.due("in the year it is", x.make(0, false, 1520, 1), 1);
    }

    private static void owners() {
        Watermarkmill x = study(1);
        x.sell(0, 1, 1500);
        x.sell(0, 2, 1500);
        x.sell(0, 3, 1510);
        x.sell(0, 0, 1510);
        String owners = "";
        for (int year : new int[] {1400, 1499, 1500, 1509, 1510, 1900}) {
            owners += x.owner(0, year) + " ";
        }
        Check.due("The owner is by the last sale, of several in one year the last one", owners, "0 0 2 2 0 0 ");
    }

    // ---- lots, reams, documents

    private static void lots() {
        Watermarkmill x = study(3);
        x.twin(0, 1);
        x.document(1500, 0);
        x.use(0, reamOf(x, 1, true, 1500, 5), 5);
        x.use(0, reamOf(x, 1, false, 1500, 2), 2);
        String moulds = "";
        for (int sheet = 0; sheet < 7; sheet++) {
            moulds += x.leafOf(0, sheet, 1) / 100;
        }
        Check.due("by turns, the mould itself first; or of a mould", moulds, "1010111");
        for (int lot = 2; lot < 30; lot++) {
            Check.due("Lots are numbered from 0", x.make(2, false, 1500, 1), lot);
        }
        Check.thrown("Lots, at most 30", Check.STATE, () -> x.make(2, false, 1500, 1));
    }

    private static void reams() {
        Watermarkmill x = study(3);
        x.twin(0, 1);
        x.make(0, true, 1500, 5);
        x.make(2, false, 1500, 5);
        for (int ream = 0; ream < 20; ream++) {
            Check.due("Reams are numbered from 0", x.ream(0), ream);
        }
        Check.thrown("Reams, at most 20", Check.STATE, () -> x.ream(0));
        x.put(0, 0, 1);
        x.put(0, 1, 2);
        x.put(1, 0, 2);
        x.put(0, 0, 2);
        x.document(1500, 0);
        x.use(0, 0, 5);
        x.use(0, 1, 2);
        String moulds = "";
        for (int sheet = 0; sheet < 7; sheet++) {
            moulds += x.leafOf(0, sheet, 1) / 100;
        }
        Check.due("the first ones that are left of each lot; they lie as they were put in", moulds, "0221010");
    }

    private static void tariffs() {
        Watermarkmill x = study(2);
        x.make(0, false, 1500, 3);
        x.make(0, false, 1510, 4);
        x.make(1, false, 1500, 5);
        x.ream(0);
        x.put(0, 0, 3);
        x.put(0, 1, 4);
        x.put(0, 2, 5);
        Check.due("A tariff, 2 for each of another mill", x.tariff(0), 10);
        x.sell(0, 3, 1505);
        Check.due("A tariff, by the year in which it was made", x.tariff(0), 18);
        x.document(1600, 0);
        x.use(0, 0, 6);
        Check.due("A tariff, of what is in it by now", x.tariff(0), 12);
    }

    private static void documents() {
        Watermarkmill x = study(2);
        int old = reamOf(x, 0, false, 1490, 10);
        int young = reamOf(x, 1, false, 1500, 10);
        for (int document = 0; document < 20; document++) {
            Check.due("Documents are numbered from 0", x.document(1499 + document % 2, document % 4), document);
        }
        Check.thrown("Documents, at most 20", Check.STATE, () -> x.document(1500, 0));
        Check.due("Documents, the first ones", x.use(1, old, 3), 3);
        Check.due("Documents, more, of any reams", x.use(1, young, 1), 4);
        Check.due("Documents, and of the first again", x.use(1, old, 1), 5);
        Check.due("Documents, in the same year", x.meanAge(), 8.0);
        Check.thrown("A sheet is not used ahead of its year", Check.UNSUPPORTED, () -> x.use(0, young, 1));
        Check.due("A sheet is used in its year", x.use(3, young, 1), 1);
        Check.due("The year is known to the document alone", bounds(x, 1), "1400-1900");
    }

    private static void leaves() {
        String[] marks = {"4", "40", "2002", "10011001"};
        String[] mates = {"", "21", "4321", "87654321"};
        Watermarkmill x = study(1);
        for (int f = 0; f <= 3; f++) {
            int folds = f;
            int leaves = 1 << folds;
            x.document(1500, folds);
            String marksSeen = "";
            String matesSeen = "";
            for (int leaf = 1; leaf <= leaves; leaf++) {
                marksSeen += x.markIn(folds, leaf);
                matesSeen += folds == 0 ? "" : x.conjugate(folds, leaf);
            }
            Check.due("The mark lies in the midst of one half", marksSeen, marks[folds]);
            Check.due("The leaf that hangs together with another", matesSeen, mates[folds]);
            Check.thrown("Leaves are numbered from 1", Check.MISSING, () -> x.markIn(folds, 0));
            Check.thrown("Leaves are 1, 2, 4 or 8", Check.MISSING, () -> x.markIn(folds, leaves + 1));
        }
        Check.thrown("none with one leaf", Check.MISSING, () -> x.conjugate(0, 1));
        Check.thrown("folded 0 to 3 times", Check.ARGUMENT, () -> x.document(1500, 4));
    }

    private static void stocks() {
        Watermarkmill x = study(2);
        x.document(1500, 1);
        x.damage(0, 0, false, 1500);
        x.use(0, reamOf(x, 0, false, 1500, 1), 1);
        x.use(0, reamOf(x, 1, false, 1500, 1), 1);
        Check.due("A stock is a mould in a state", x.leafOf(0, 0, 1), 1);
        x.damage(0, 0, true, 1500);
        Check.due("A stock, of the year of the sheet, as it is told by now", x.leafOf(0, 0, 1), 2);
        x.damage(0, 1, true, 1501);
        Check.due("A stock, later damage aside", x.leafOf(0, 0, 1), 2);
        x.cancel(0, 0, 2, 1);
        Check.due("A leaf is of the stock of its sheet", x.leafOf(0, 0, 1), 2);
        Check.due("A leaf, unless it was cancelled", x.leafOf(0, 0, 2), 100);
        Check.due("A leaf, of the other sheet still", x.leafOf(0, 1, 2), 100);
    }

    // ---- images

    /** Document 0 has a sheet of mould 0, one of mould 0 worn in two wires, one of mould 1, and one of mould 2. */
    private static Watermarkmill traced() {
        Watermarkmill x = new Watermarkmill();
        x.mould(0, 7, 200, 249, 250, 400);
        x.mould(0, 7, 203, 249, 250, 400);
        x.mould(0, 8, 200, 249, 250, 400);
        x.document(1600, 0);
        x.use(0, reamOf(x, 0, false, 1500, 1), 1);
        x.damage(0, 1, false, 1501);
        x.damage(0, 2, true, 1501);
        x.damage(1, 1, true, 1501);
        x.use(0, reamOf(x, 0, false, 1501, 1), 1);
        x.use(0, reamOf(x, 1, false, 1501, 1), 1);
        x.use(0, reamOf(x, 2, false, 1501, 1), 1);
        return x;
    }

    private static String distances(Watermarkmill x, int image) {
        return x.distance(image, 0) + " " + x.distance(image, 1) + " " + x.distance(image, 2) + " "
                + x.distance(image, 3);
    }

    private static void tracings() {
        Watermarkmill x = traced();
        for (int image = 0; image < 20; image++) {
            Check.due("Images are numbered from 0", x.image(0, 0, 0, 255), image);
        }
        x.image(0, 0, -20, 255);
        x.wash(0);
        x.image(0, 0, 20, 255);
        Check.due("A tracing sees the distances", distances(x, 0), "200 249 250 400");
        Check.due("A tracing, each more by an error", distances(x, 20), "180 229 230 380");
        Check.due("A tracing, less by their 50th, cut, and then the error", distances(x, 21), "216 265 265 412");
        Check.due("A tracing is as when it was made", distances(x, 0), "200 249 250 400");
        for (int image = 22; image < 40; image++) {
            x.image(0, 1, 0, 255);
        }
        Check.thrown("Images, at most 40", Check.STATE, () -> x.image(0, 0, 0, 0));
    }

    private static void fits() {
        Watermarkmill x = traced();
        x.image(0, 0, 0, 0);
        x.image(0, 2, 0, 0);
        x.image(0, 2, 1, 0);
        x.image(0, 3, 0, 0);
        Check.due("Two images fit, the tolerance is 3 at first", x.compare(0, 1), 's');
        Check.due("Two images do not, all four distances count", x.compare(0, 2), 'c');
        Check.due("Two images do not, the marks differ", x.compare(0, 3), 'm');
        x.setTolerance(4);
        Check.due("Two images fit, with a greater tolerance", x.compare(0, 2), 's');
        Check.due("Two images do not, with any", x.setTolerance(50) + "" + x.compare(3, 0), "4m");
    }

    private static void verdicts() {
        Watermarkmill x = traced();
        x.image(0, 0, 0, 255);
        x.image(0, 1, 0, 255);
        x.image(0, 2, 0, 255);
        x.image(0, 1, 0, 4);
        x.image(0, 1, 0, 0);
        Check.due("'e' the first one is the earlier", x.compare(0, 1), 'e');
        Check.due("'l' the later likewise", x.compare(1, 0), 'l');
        Check.due("'d' unlike moulds", x.compare(1, 2) + "" + x.compare(2, 1), "dd");
        Check.due("by a wire that both see", x.compare(2, 3), 'e');
        Check.due("'s' the same as far as is seen", x.compare(0, 4) + "" + x.compare(2, 4) + x.compare(1, 1), "sss");
        x.damage(0, 0, true, 1501);
        Check.due("as it is when the image is made", x.compare(1, 3), 's');
    }

    // ---- repertories

    private static void repertories() {
        Watermarkmill x = new Watermarkmill();
        x.merge(3, 5, 2, 9);
        x.merge(1, 99, 2, 9);
        Check.due("all that are one with them are one", x.merge(3, 5, 1, 99), false);
        Check.due("the lowest contributor", x.entry(3, 5), 199);
        x.merge(3, 5, 1, 98);
        Check.due("and of it the lowest one", x.entry(2, 9), 198);
        Check.due("They clash, two numbers of one contributor", x.clashes(), 2);
        Check.due("a number by itself", x.entry(0, 0), 0);
        Check.thrown("Contributors 0 to 3", Check.ARGUMENT, () -> x.entry(4, 0));
        Check.thrown("numbers from 0 to 99", Check.ARGUMENT, () -> x.entry(0, 100));
    }

    // ---- dating

    private static void dating() {
        Watermarkmill x = dated(3);
        x.use(0, reamOf(x, 0, false, 1500, 1), 1);
        x.claim(0, 0, 20);
        Check.due("a claim, whether or not there is such a state yet", x.state(0, 1900), 0);
        Check.due("What is claimed is apart from what is true", x.leafOf(0, 0, 1), 0);
        x.claim(1, 0, 3);
        x.date(0, 1600);
        Check.due("not later than all of a later state", bounds(x, 1), "1400-1612");
        x.date(0, 0);
        x.date(1, 1600);
        Check.due("not ahead of all of an earlier state", bounds(x, 0), "1588-1900");
        x.claim(2, 0, 3);
        Check.due("one state does not order", bounds(x, 2), "1400-1900");
        x.setAge(0);
        Check.due("ages of 0 to as many years as told", bounds(x, 0), "1600-1900");
        x.setAge(100);
        Check.due("an age of a hundred", bounds(x, 0), "1500-1900");
        x.date(0, 1499);
        Check.due("if there are none, nothing fits", x.fits(), false);
        Check.thrown("and no years are told of any", Check.UNSUPPORTED, () -> x.year(2, false));
        x.date(0, 1500);
        Check.due("for all documents together", x.fits() + " " + x.years(), "true 203");
        sixClaims();
    }

    private static void sixClaims() {
        Watermarkmill x = dated(1);
        for (int state = 0; state < 6; state++) {
            Check.due("stocks by claims", x.claim(0, 0, state), state + 1);
        }
        Check.thrown("at most 6", Check.STATE, () -> x.claim(0, 1, 0));
        Check.due("all states in one document bind it to nothing", bounds(x, 0), "1400-1900");
    }

    private static void grounds() {
        Watermarkmill x = dated(4);
        x.claim(0, 0, 0);
        x.claim(1, 0, 1);
        x.claim(2, 0, 1);
        x.claim(3, 0, 2);
        x.date(2, 1600);
        x.date(3, 1650);
        Check.due("The ground is the one without whose date it would not be", x.ground(0, true), 2);
        x.date(1, 1600);
        Check.thrown("none if there is no such one", Check.MISSING, () -> x.ground(0, true));
        x.date(1, 1599);
        Check.due("the lowest document", x.ground(0, true), 1);
        x.date(0, 1400);
        Check.thrown("other than this one", Check.MISSING, () -> x.ground(0, true));
    }

    private static void forgeries() {
        Watermarkmill x = dated(3);
        x.claim(0, 0, 0);
        x.claim(1, 0, 1);
        x.claim(2, 0, 2);
        x.date(0, 1500);
        x.date(2, 1550);
        x.date(1, 1520);
        String signs = "";
        for (int pretended : new int[] {1487, 1488, 1562, 1563}) {
            signs += x.forged(1, pretended);
        }
        Check.due("a forgery if its years, its own date aside, are all later, or all earlier", signs, "l--e");
    }

    // ---- exceptions

    private static void exceptions() {
        Watermarkmill x = dated(1);
        Check.thrown("the one that is listed first", Check.BOUNDS, () -> x.claim(1, 3, 99));
        Check.thrown("the next one", Check.ARGUMENT, () -> x.claim(0, 0, 99));
        x.claim(0, 0, 0);
        for (int state = 1; state < 6; state++) {
            x.claim(0, 0, state);
        }
        Check.thrown("the one after it", Check.UNSUPPORTED, () -> x.claim(0, 0, 0));
        Check.thrown("the last one", Check.STATE, () -> x.claim(0, 0, 6));
        Check.due("an exception changes nothing", x.unclaim(0, 0, 5), 5);
    }
}
