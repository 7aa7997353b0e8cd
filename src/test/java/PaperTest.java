/** Promises 11 to 23: lots, reams and documents. */
final class PaperTest {
    public static void main(String[] args) {
        make();
        makeAgainstYears();
        ream();
        put();
        putRoom();
        tariff();
        document();
        use();
        useRoom();
        cancel();
        cancels();
        leafOf();
        markIn();
        conjugate();
        run();
        wash();
        Check.end();
    }

    /** Moulds 0 and 1, twins of the mills 0 and 1, and mould 2 of the mill 2, alone. */
    private static Watermarkmill withMoulds() {
        Watermarkmill x = new Watermarkmill();
        x.mould(0, 7, 200, 200, 200, 200);
        x.copy(0, 1);
        x.mould(2, 8, 200, 200, 200, 200);
        x.twin(0, 1);
        return x;
    }

    /** A lot of 10 by turns from 1500, one of 10 of mould 2 from 1520, both in the ream 0 of the mill 0. */
    private static Watermarkmill withReam() {
        Watermarkmill x = withMoulds();
        x.make(0, true, 1500, 10);
        x.make(2, false, 1520, 10);
        x.ream(0);
        x.put(0, 0, 10);
        x.put(0, 1, 10);
        return x;
    }

    private static void make() {
        Watermarkmill x = withMoulds();
        Check.thrown("11 no mould", Check.BOUNDS, () -> x.make(3, true, 0, 0));
        Check.thrown("11 year", Check.ARGUMENT, () -> x.make(0, false, 1399, 1));
        Check.thrown("11 year above", Check.ARGUMENT, () -> x.make(0, false, 1901, 1));
        Check.thrown("11 no sheets", Check.ARGUMENT, () -> x.make(0, false, 1500, 0));
        Check.thrown("11 too many sheets", Check.ARGUMENT, () -> x.make(0, false, 1500, 501));
        Check.thrown("11 no twin", Check.UNSUPPORTED, () -> x.make(2, true, 1500, 1));
        Check.thrown("11 range ahead of twin", Check.ARGUMENT, () -> x.make(2, true, 1500, 0));
        Check.due("11 first", x.make(0, false, 1500, 500), 0);
        for (int i = 1; i < 30; i++) {
            Check.due("11 numbers", x.make(2, false, 1500, 1), i);
        }
        Check.thrown("11 full", Check.STATE, () -> x.make(2, false, 1500, 1));
        Check.thrown("11 year ahead of full", Check.UNSUPPORTED, () -> x.make(2, false, 1499, 1));
        Check.due("11 a make that was refused is no use", x.damage(1, 0, true, 1400), 1);
    }

    private static void makeAgainstYears() {
        Watermarkmill x = withMoulds();
        x.damage(1, 0, true, 1500);
        Check.thrown("11 twin damaged later", Check.UNSUPPORTED, () -> x.make(0, true, 1499, 1));
        Check.due("11 not without turns", x.make(0, false, 1499, 1), 0);
        Check.due("11 damaged in the year", x.make(1, true, 1500, 1), 1);
        Check.thrown("11 used later by turns", Check.UNSUPPORTED, () -> x.make(0, false, 1499, 1));
        x.retire(1, 1510);
        Check.thrown("11 twin retired earlier", Check.UNSUPPORTED, () -> x.make(0, true, 1511, 1));
        Check.thrown("11 retired later", Check.UNSUPPORTED, () -> x.make(1, false, 1509, 1));
        Check.due("11 retired in the year", x.make(0, true, 1510, 1), 2);
        Check.thrown("11 used later", Check.UNSUPPORTED, () -> x.make(0, false, 1509, 1));
    }

    private static void ream() {
        Watermarkmill x = new Watermarkmill();
        Check.thrown("12 mill", Check.ARGUMENT, () -> x.ream(5));
        Check.thrown("12 mill below", Check.ARGUMENT, () -> x.ream(-1));
        for (int i = 0; i < 20; i++) {
            Check.due("12 numbers", x.ream(i % 5), i);
        }
        Check.thrown("12 full", Check.STATE, () -> x.ream(0));
        Check.thrown("12 mill ahead of full", Check.ARGUMENT, () -> x.ream(5));
    }

    private static void put() {
        Watermarkmill x = withMoulds();
        x.make(0, true, 1500, 7);
        x.ream(0);
        Check.thrown("13 no ream", Check.BOUNDS, () -> x.put(1, 0, 0));
        Check.thrown("13 no lot", Check.BOUNDS, () -> x.put(0, 1, 0));
        Check.thrown("13 none", Check.ARGUMENT, () -> x.put(0, 0, 0));
        Check.thrown("13 too many", Check.ARGUMENT, () -> x.put(0, 0, 501));
        Check.thrown("13 fewer left", Check.MISSING, () -> x.put(0, 0, 8));
        Check.due("13 first", x.put(0, 0, 3), 3);
        Check.thrown("13 fewer left then", Check.MISSING, () -> x.put(0, 0, 5));
        Check.due("13 the rest", x.put(0, 0, 4), 7);
        Check.thrown("13 none left", Check.MISSING, () -> x.put(0, 0, 1));
        x.document(1600, 0);
        x.use(0, 0, 7);
        String moulds = "";
        for (int sheet = 0; sheet < 7; sheet++) {
            moulds += x.leafOf(0, sheet, 1) + " ";
        }
        Check.due("13 turns go on", moulds, "0 100 0 100 0 100 0 ");
        x.make(2, false, 1500, 2);
        Check.due("13 what was used is gone", x.put(0, 1, 2), 2);
    }

    private static void putRoom() {
        Watermarkmill x = withMoulds();
        x.make(0, false, 1500, 500);
        x.make(0, false, 1500, 499);
        x.make(0, false, 1500, 3);
        x.ream(0);
        x.put(0, 0, 500);
        x.put(0, 1, 499);
        Check.thrown("13 over a thousand", Check.STATE, () -> x.put(0, 2, 2));
        Check.thrown("13 left ahead of room", Check.MISSING, () -> x.put(0, 2, 4));
        Check.due("13 just a thousand", x.put(0, 2, 1), 1000);
        Check.thrown("13 full", Check.STATE, () -> x.put(0, 2, 1));
        x.document(1600, 0);
        x.use(0, 0, 2);
        Check.due("13 room again", x.put(0, 2, 2), 1000);
    }

    private static void tariff() {
        Watermarkmill x = withMoulds();
        x.make(0, true, 1500, 3);
        x.make(2, false, 1510, 5);
        x.ream(0);
        x.ream(1);
        Check.thrown("14 no ream", Check.BOUNDS, () -> x.tariff(2));
        Check.due("14 empty", x.tariff(0), 0);
        x.put(0, 0, 3);
        x.put(1, 1, 4);
        Check.due("14 one of the twin", x.tariff(0), 2);
        Check.due("14 all foreign", x.tariff(1), 8);
        x.sell(2, 1, 1511);
        Check.due("14 sold later", x.tariff(1), 8);
        x.sell(0, 1, 1500);
        Check.due("14 sold in the year", x.tariff(0), 6);
        x.document(1600, 0);
        x.use(0, 0, 2);
        Check.due("14 what is in it by now", x.tariff(0), 2);
    }

    private static void document() {
        Watermarkmill x = new Watermarkmill();
        Check.thrown("15 year", Check.ARGUMENT, () -> x.document(1399, 0));
        Check.thrown("15 year above", Check.ARGUMENT, () -> x.document(1901, 0));
        Check.thrown("15 folds", Check.ARGUMENT, () -> x.document(1500, 4));
        Check.thrown("15 folds below", Check.ARGUMENT, () -> x.document(1500, -1));
        for (int i = 0; i < 20; i++) {
            Check.due("15 numbers", x.document(i % 2 == 0 ? 1400 : 1900, i % 4), i);
        }
        Check.thrown("15 full", Check.STATE, () -> x.document(1500, 0));
        Check.thrown("15 range ahead of full", Check.ARGUMENT, () -> x.document(1500, 4));
    }

    private static void use() {
        Watermarkmill x = withReam();
        x.document(1510, 1);
        x.document(1499, 1);
        Check.thrown("16 no document", Check.BOUNDS, () -> x.use(2, 0, 0));
        Check.thrown("16 no ream", Check.BOUNDS, () -> x.use(0, 1, 0));
        Check.thrown("16 none", Check.ARGUMENT, () -> x.use(0, 0, 0));
        Check.thrown("16 too many", Check.ARGUMENT, () -> x.use(0, 0, 51));
        Check.thrown("16 fewer left", Check.MISSING, () -> x.use(0, 0, 21));
        Check.thrown("16 made later", Check.UNSUPPORTED, () -> x.use(1, 0, 1));
        Check.due("16 some", x.use(0, 0, 3), 3);
        Check.thrown("16 one of them made later", Check.UNSUPPORTED, () -> x.use(0, 0, 8));
        Check.due("16 in the order of the ream", x.leafOf(0, 1, 1), 100);
        Check.due("16 more", x.use(0, 0, 7), 10);
        Check.thrown("16 left ahead of made later", Check.MISSING, () -> x.use(0, 0, 11));
        x.document(1520, 0);
        Check.due("16 made in the year", x.use(2, 0, 10), 10);
        Check.due("16 the next ones", x.leafOf(2, 0, 1), 200);
    }

    private static void useRoom() {
        Watermarkmill x = withMoulds();
        x.make(0, false, 1500, 200);
        x.make(2, false, 1520, 50);
        x.ream(0);
        x.ream(0);
        x.put(0, 0, 200);
        x.put(1, 1, 50);
        x.document(1510, 0);
        x.use(0, 0, 50);
        Check.due("16 ninety-nine", x.use(0, 0, 49), 99);
        Check.thrown("16 over a hundred", Check.STATE, () -> x.use(0, 0, 2));
        Check.thrown("16 made later ahead of room", Check.UNSUPPORTED, () -> x.use(0, 1, 50));
        Check.due("16 a hundred", x.use(0, 0, 1), 100);
        Check.thrown("16 full", Check.STATE, () -> x.use(0, 0, 1));
        x.make(0, false, 1520, 1);
        Check.due("16 the ream is as it was", x.put(0, 2, 1), 101);
    }

    /** Document 0, folded twice, of six sheets: moulds 0, 1, 0, 1 of 1500, then 2, 2 of 1520. */
    private static Watermarkmill withDocument(int folds) {
        Watermarkmill x = withMoulds();
        x.make(0, true, 1500, 4);
        x.make(2, false, 1520, 2);
        x.ream(0);
        x.put(0, 0, 4);
        x.put(0, 1, 2);
        x.document(1520, folds);
        x.use(0, 0, 6);
        return x;
    }

    private static void cancel() {
        Watermarkmill x = withDocument(2);
        Check.thrown("17 no document", Check.BOUNDS, () -> x.cancel(1, 9, 9, 9));
        Check.thrown("17 no sheet", Check.MISSING, () -> x.cancel(0, 6, 1, 0));
        Check.thrown("17 sheet below", Check.MISSING, () -> x.cancel(0, -1, 1, 0));
        Check.thrown("17 no other sheet", Check.MISSING, () -> x.cancel(0, 0, 1, 6));
        Check.thrown("17 no leaf", Check.MISSING, () -> x.cancel(0, 0, 5, 1));
        Check.thrown("17 leaf below", Check.MISSING, () -> x.cancel(0, 0, 0, 1));
        Check.thrown("17 the same", Check.UNSUPPORTED, () -> x.cancel(0, 2, 1, 2));
        Check.thrown("17 leaf ahead of the same", Check.MISSING, () -> x.cancel(0, 2, 5, 2));
        Check.due("17 nothing changed", x.leafOf(0, 2, 1), 0);
        Check.due("17 another stock", x.cancel(0, 0, 1, 1), true);
        Check.due("17 the same stock", x.cancel(0, 0, 2, 2), false);
        Check.due("17 again, from elsewhere", x.cancel(0, 0, 1, 4), true);
        Check.due("17 the last one counts", x.leafOf(0, 0, 1), 200);
        Check.due("17 the sheet's own stock, not its leaf's", x.cancel(0, 2, 1, 0), false);
        Check.due("17 the other sheet's own stock", x.leafOf(0, 2, 1), 0);
    }

    private static void cancels() {
        Watermarkmill x = withDocument(2);
        Check.thrown("18 no document", Check.BOUNDS, () -> x.cancels(1, 9));
        Check.thrown("18 no sheet", Check.MISSING, () -> x.cancels(0, 6));
        Check.thrown("18 sheet below", Check.MISSING, () -> x.cancels(0, -1));
        Check.due("18 none", x.cancels(0, 0), 0);
        x.cancel(0, 0, 1, 1);
        Check.due("18 one", x.cancels(0, 0), 1);
        x.cancel(0, 0, 2, 1);
        Check.due("18 two", x.cancels(0, 0), 2);
        x.cancel(0, 0, 4, 3);
        Check.due("18 its mate is of the same stock", x.cancels(0, 0), 1);
        x.cancel(0, 0, 3, 4);
        Check.due("18 both cancelled, unlike", x.cancels(0, 0), 1);
        Check.due("18 another sheet", x.cancels(0, 1), 0);
        Watermarkmill y = withDocument(0);
        y.cancel(0, 0, 1, 1);
        Check.due("18 a leaf alone", y.cancels(0, 0), 0);
        Watermarkmill z = withDocument(3);
        for (int leaf = 1; leaf <= 4; leaf++) {
            z.cancel(0, 0, leaf, 1);
        }
        Check.due("18 all of eight", z.cancels(0, 0), 4);
    }

    private static void leafOf() {
        Watermarkmill x = withDocument(1);
        Check.thrown("19 no document", Check.BOUNDS, () -> x.leafOf(1, 9, 9));
        Check.thrown("19 no sheet", Check.MISSING, () -> x.leafOf(0, 6, 1));
        Check.thrown("19 no leaf", Check.MISSING, () -> x.leafOf(0, 0, 3));
        Check.thrown("19 leaf below", Check.MISSING, () -> x.leafOf(0, 0, 0));
        Check.due("19 its sheet's", x.leafOf(0, 1, 2), 100);
        x.damage(1, 0, false, 1500);
        Check.due("19 as it is told by now", x.leafOf(0, 1, 2), 101);
        x.damage(1, 0, true, 1501);
        Check.due("19 later damage is apart", x.leafOf(0, 1, 2), 101);
        x.cancel(0, 0, 1, 1);
        Check.due("19 cancelled", x.leafOf(0, 0, 1), 101);
        Check.due("19 its mate", x.leafOf(0, 0, 2), 0);
        x.damage(1, 1, false, 1501);
        Check.due("19 the last sheet", x.leafOf(0, 5, 1), 200);
    }

    private static String marks(Watermarkmill x, int document, int leaves) {
        String marks = "";
        for (int leaf = 1; leaf <= leaves; leaf++) {
            marks += x.markIn(document, leaf);
        }
        return marks;
    }

    private static void markIn() {
        Watermarkmill x = new Watermarkmill();
        for (int folds = 0; folds < 4; folds++) {
            x.document(1500, folds);
        }
        Check.due("20 no fold", marks(x, 0, 1), "4");
        Check.due("20 once", marks(x, 1, 2), "40");
        Check.due("20 twice", marks(x, 2, 4), "2002");
        Check.due("20 three times", marks(x, 3, 8), "10011001");
        Check.thrown("20 no document", Check.BOUNDS, () -> x.markIn(4, 0));
        Check.thrown("20 leaf below", Check.MISSING, () -> x.markIn(0, 0));
        int[] leaves = {2, 3, 5, 9};
        for (int folds = 0; folds < 4; folds++) {
            int document = folds;
            Check.thrown("20 no leaf", Check.MISSING, () -> x.markIn(document, leaves[document]));
        }
    }

    private static void conjugate() {
        Watermarkmill x = new Watermarkmill();
        for (int folds = 0; folds < 4; folds++) {
            x.document(1500, folds);
        }
        Check.thrown("21 no document", Check.BOUNDS, () -> x.conjugate(-1, 0));
        Check.thrown("21 with none", Check.MISSING, () -> x.conjugate(0, 1));
        Check.thrown("21 no leaf", Check.MISSING, () -> x.conjugate(1, 3));
        Check.thrown("21 leaf below", Check.MISSING, () -> x.conjugate(3, 0));
        Check.due("21 of two", x.conjugate(1, 1), 2);
        Check.due("21 of four", x.conjugate(2, 3), 2);
        Check.due("21 of eight", x.conjugate(3, 8), 1);
        Check.due("21 in the middle", x.conjugate(3, 4), 5);
    }

    private static void run() {
        Watermarkmill x = withDocument(1);
        x.document(1600, 3);
        Check.due("22 nothing in common", x.run(0, 1), 0);
        Check.due("22 with itself", x.run(0, 0), 6);
        x.make(2, false, 1520, 1);
        x.make(1, true, 1500 + 30, 3);
        x.ream(0);
        x.put(1, 2, 1);
        x.put(1, 3, 3);
        x.use(1, 1, 4);
        Check.due("22 stocks 2, 1, 0, 1 against 0, 1, 0, 1, 2, 2", x.run(1, 0), 3);
        Check.due("22 the other way", x.run(0, 1), 3);
        x.cancel(0, 2, 1, 5);
        Check.due("22 leaves aside", x.run(0, 1), 3);
        x.damage(0, 0, true, 1530);
        Check.due("22 another state is another stock", x.run(0, 1), 1);
        Check.thrown("22 no document", Check.BOUNDS, () -> x.run(2, 0));
        Check.thrown("22 no other document", Check.BOUNDS, () -> x.run(0, 2));
    }

    private static void wash() {
        Watermarkmill x = new Watermarkmill();
        x.document(1500, 0);
        x.document(1500, 0);
        Check.due("23 first", x.wash(0), true);
        Check.due("23 again", x.wash(0), false);
        Check.due("23 another one", x.wash(1), true);
        Check.thrown("23 no document", Check.BOUNDS, () -> x.wash(2));
        Check.thrown("23 below", Check.BOUNDS, () -> x.wash(-1));
    }
}
