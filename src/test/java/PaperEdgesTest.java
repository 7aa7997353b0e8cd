/** The edges of the promises 11 to 23: too small, too large, empty, full, or refused, and what is just taken. */
final class PaperEdgesTest {
    public static void main(String[] args) {
        make();
        makeAgainstYears();
        makeByTurns();
        ream();
        put();
        putOrder();
        tariff();
        document();
        use();
        useAgainstYears();
        useOrder();
        cancel();
        cancels();
        leafOf();
        markIn();
        conjugate();
        run();
        wash();
        Check.end();
    }

    /** Moulds 0 and 1, twins of the mills 0 and 1, and mould 2 of the mill 2, alone. */
    private static Watermarkmill moulds() {
        Watermarkmill x = new Watermarkmill();
        x.mould(0, 7, 100, 200, 300, 400);
        x.copy(0, 1);
        x.mould(2, 8, 100, 200, 300, 400);
        x.twin(0, 1);
        return x;
    }

    /** Mould 0 used and mould 2 damaged in 1500, mould 1 retired in 1500. */
    private static Watermarkmill lived() {
        Watermarkmill x = moulds();
        x.make(0, false, 1500, 1);
        x.retire(1, 1500);
        x.damage(2, 0, true, 1500);
        return x;
    }

    /** As many lots, reams and documents as there can be, none with sheets but the lots, of one of mould 2 each. */
    private static Watermarkmill full() {
        Watermarkmill x = moulds();
        for (int i = 0; i < 30; i++) {
            x.make(2, false, 1500, 1);
        }
        for (int i = 0; i < 20; i++) {
            x.ream(i % 5);
            x.document(1500, i % 4);
        }
        return x;
    }

    /** Lots of 3 by turns of 1500 and 500 of mould 2 of 1510; ream 0 of the mill 0 is empty. */
    private static Watermarkmill lots() {
        Watermarkmill x = moulds();
        x.make(0, true, 1500, 3);
        x.make(2, false, 1510, 500);
        x.ream(0);
        return x;
    }

    /** Ream 0 has 999 sheets of mould 2, of 1510; the lot 2 has 2 left, the lot 3 none. */
    private static Watermarkmill heaped() {
        Watermarkmill x = moulds();
        x.make(2, false, 1510, 500);
        x.make(2, false, 1510, 499);
        x.make(2, false, 1510, 2);
        x.make(0, false, 1510, 1);
        x.ream(0);
        x.ream(1);
        x.put(0, 0, 500);
        x.put(0, 1, 499);
        x.put(1, 3, 1);
        return x;
    }

    /** Documents 0 of 1505 and 1 of 1510, folded once, empty; ream 0 with 3 sheets of 1500, then 52 of 1510. */
    private static Watermarkmill readers() {
        Watermarkmill x = lots();
        x.put(0, 0, 3);
        x.put(0, 1, 52);
        x.document(1505, 1);
        x.document(1510, 1);
        return x;
    }

    /** Document 0 of 1510 with 99 sheets of 1500, ream 0 with two of them more, ream 1 with one of 1520. */
    private static Watermarkmill thick() {
        Watermarkmill x = moulds();
        x.make(0, true, 1500, 101);
        x.make(2, false, 1520, 1);
        x.ream(0);
        x.ream(1);
        x.put(0, 0, 101);
        x.put(1, 1, 1);
        x.document(1510, 0);
        x.use(0, 0, 50);
        x.use(0, 0, 49);
        return x;
    }

    /** Documents 0 to 3 of 1510, folded as often as the number says, with sheets of the moulds 0, 1, 0, 1 and 2. */
    private static Watermarkmill bound() {
        Watermarkmill x = moulds();
        x.make(0, true, 1500, 16);
        x.make(2, false, 1500, 4);
        for (int i = 0; i < 4; i++) {
            x.ream(0);
            x.put(i, 0, 4);
            x.put(i, 1, 1);
            x.document(1510, i);
            x.use(i, i, 5);
        }
        return x;
    }

    /** The same, and the document 4 without sheets, folded three times. */
    private static Watermarkmill boundAndEmpty() {
        Watermarkmill x = bound();
        x.document(1510, 3);
        return x;
    }

    private static void make() {
        Edge.Scene moulds = PaperEdgesTest::moulds;
        Edge.Scene full = PaperEdgesTest::full;
        Edge.takes("11 the mould", Check.BOUNDS, 0, 2, moulds, (x, n) -> x.make(n, false, 1500, 1));
        Edge.takes("11 the year", Check.ARGUMENT, 1400, 1900, moulds, (x, n) -> x.make(0, false, n, 1));
        Edge.takes("11 the sheets", Check.ARGUMENT, 1, 500, moulds, (x, n) -> x.make(0, false, 1500, n));
        Edge.takes("11 the sheets by turns", Check.ARGUMENT, 1, 500, moulds, (x, n) -> x.make(1, true, 1500, n));
        Edge.answers("11 the thirtieth is 29", 1, full, x -> x.put(0, 29, 1));
        Edge.refuses("11 a thirty-first", Check.STATE, full, x -> x.make(2, false, 1500, 1));
        Edge.refuses("11 nor is that a use", Check.STATE, full, x -> x.make(2, false, 1501, 1));
        Edge.refuses("11 nor is that a use of the twin", Check.STATE, full, x -> x.make(0, true, 1501, 1));
        Edge.refuses("11 no twin", Check.UNSUPPORTED, moulds, x -> x.make(2, true, 1500, 1));
        Edge.refuses("11 the mould ahead of the year", Check.BOUNDS, moulds, x -> x.make(3, false, 1901, 1));
        Edge.refuses("11 the mould ahead of the sheets", Check.BOUNDS, moulds, x -> x.make(-1, true, 1500, 0));
        Edge.refuses("11 the mould ahead of room", Check.BOUNDS, full, x -> x.make(3, false, 1500, 1));
        Edge.refuses("11 the year ahead of the twin", Check.ARGUMENT, moulds, x -> x.make(2, true, 1399, 1));
        Edge.refuses("11 the sheets ahead of the twin", Check.ARGUMENT, moulds, x -> x.make(2, true, 1500, 501));
        Edge.refuses("11 the sheets ahead of later use", Check.ARGUMENT, PaperEdgesTest::lived,
                x -> x.make(0, false, 1499, 0));
        Edge.refuses("11 the sheets ahead of room", Check.ARGUMENT, full, x -> x.make(2, false, 1500, 0));
        Edge.refuses("11 the twin ahead of room", Check.UNSUPPORTED, full, x -> x.make(2, true, 1500, 1));
        Edge.refuses("11 later use ahead of room", Check.UNSUPPORTED, full, x -> x.make(2, false, 1499, 1));
    }

    private static void makeAgainstYears() {
        Edge.Scene lived = PaperEdgesTest::lived;
        Edge.refuses("11 used in a later year", Check.UNSUPPORTED, lived, x -> x.make(0, false, 1499, 1));
        Edge.answers("11 used in the year", 1, lived, x -> x.make(0, false, 1500, 1));
        Edge.answers("11 used in an earlier year", 1, lived, x -> x.make(0, false, 1501, 1));
        Edge.refuses("11 damaged in a later year", Check.UNSUPPORTED, lived, x -> x.make(2, false, 1499, 1));
        Edge.answers("11 damaged in the year", 1, lived, x -> x.make(2, false, 1500, 1));
        Edge.refuses("11 retired in a later year", Check.UNSUPPORTED, lived, x -> x.make(1, false, 1499, 1));
        Edge.answers("11 retired in the year", 1, lived, x -> x.make(1, false, 1500, 1));
        Edge.refuses("11 retired in an earlier year", Check.UNSUPPORTED, lived, x -> x.make(1, false, 1501, 1));
        Edge.refuses("11 the twin retired in an earlier year", Check.UNSUPPORTED, lived, x -> x.make(0, true, 1501, 1));
        Edge.refuses("11 the twin used in a later year", Check.UNSUPPORTED, lived, x -> x.make(1, true, 1499, 1));
        Edge.answers("11 the twin used in the year", 1, lived, x -> x.make(1, true, 1500, 1));
        Edge.Scene twinIsWorn = () -> {
            Watermarkmill x = moulds();
            x.damage(1, 0, true, 1500);
            return x;
        };
        Edge.refuses("11 the twin damaged in a later year", Check.UNSUPPORTED, twinIsWorn,
                x -> x.make(0, true, 1499, 1));
        Edge.answers("11 without turns the twin is no matter", 0, twinIsWorn, x -> x.make(0, false, 1499, 1));
    }

    private static void makeByTurns() {
        Edge.Scene lots = PaperEdgesTest::lots;
        Edge.answers("11 the mould itself first", "0 100 0", lots, x -> stocks(x, 3));
        Edge.answers("11 the mould itself first, of the other one", "100 0 100", () -> {
            Watermarkmill x = moulds();
            x.make(1, true, 1500, 3);
            x.ream(0);
            return x;
        }, x -> stocks(x, 3));
        Edge.answers("11 the turns go on, however they are put", "0 100 0", lots, x -> {
            x.put(0, 0, 1);
            x.put(0, 0, 1);
            return stocks(x, 1);
        });
        Edge.refuses("11 by turns the twin is used, too", Check.UNSUPPORTED, lots, x -> x.damage(1, 0, true, 1499));
    }

    /** Puts sheets of the lot 0 into the ream 0, and tells of what stocks all that is in it is then. */
    private static String stocks(Watermarkmill x, int sheets) {
        int count = x.put(0, 0, sheets);
        x.document(1900, 0);
        x.use(0, 0, count);
        StringBuilder stocks = new StringBuilder();
        for (int sheet = 0; sheet < count; sheet++) {
            stocks.append(' ').append(x.leafOf(0, sheet, 1));
        }
        return stocks.substring(1);
    }

    private static void ream() {
        Edge.Scene full = PaperEdgesTest::full;
        Edge.takes("12 the mill", Check.ARGUMENT, 0, 4, PaperEdgesTest::moulds, (x, n) -> x.ream(n));
        Edge.answers("12 the twentieth is 19", 0, full, x -> x.tariff(19));
        Edge.refuses("12 a twenty-first", Check.STATE, full, x -> x.ream(0));
        Edge.refuses("12 the mill ahead of room", Check.ARGUMENT, full, x -> x.ream(5));
    }

    private static void put() {
        Edge.Scene lots = PaperEdgesTest::lots;
        Edge.Scene heaped = PaperEdgesTest::heaped;
        Edge.takes("13 the ream", Check.BOUNDS, 0, 0, lots, (x, n) -> x.put(n, 1, 1));
        Edge.takes("13 the lot", Check.BOUNDS, 0, 1, lots, (x, n) -> x.put(0, n, 1));
        Edge.takes("13 the sheets", Check.ARGUMENT, 1, 500, lots, (x, n) -> x.put(0, 1, n));
        Edge.answers("13 all that the lot has", 3, lots, x -> x.put(0, 0, 3));
        Edge.refuses("13 the lot has fewer", Check.MISSING, lots, x -> x.put(0, 0, 4));
        Edge.refuses("13 the lot has none left", Check.MISSING, heaped, x -> x.put(1, 3, 1));
        Edge.answers("13 a put that was refused takes none", 3, lots, x -> {
            Check.outcome(() -> x.put(0, 0, 4));
            return x.put(0, 0, 3);
        });
        Edge.answers("13 behind those of the ream", 4, lots, x -> x.put(0, 0, 3) + x.put(0, 1, 1) - 3);
        Edge.answers("13 just a thousand", 1000, heaped, x -> x.put(0, 2, 1));
        Edge.refuses("13 more than a thousand", Check.STATE, heaped, x -> x.put(0, 2, 2));
        Edge.refuses("13 more than a thousand by one", Check.STATE, () -> {
            Watermarkmill x = heaped();
            x.put(0, 2, 1);
            return x;
        }, x -> x.put(0, 2, 1));
        Edge.answers("13 room in another ream", 3, heaped, x -> x.put(1, 2, 2));
        Edge.answers("13 room again, when some were used", 1000, heaped, x -> {
            x.document(1600, 0);
            x.use(0, 0, 1);
            return x.put(0, 2, 2);
        });
    }

    private static void putOrder() {
        Edge.Scene lots = PaperEdgesTest::lots;
        Edge.Scene heaped = PaperEdgesTest::heaped;
        Edge.refuses("13 the ream ahead of the sheets", Check.BOUNDS, lots, x -> x.put(1, 0, 0));
        Edge.refuses("13 the lot ahead of the sheets", Check.BOUNDS, lots, x -> x.put(0, 2, 501));
        Edge.refuses("13 the ream ahead of what is left", Check.BOUNDS, lots, x -> x.put(-1, 0, 4));
        Edge.refuses("13 the lot ahead of room", Check.BOUNDS, heaped, x -> x.put(0, 4, 2));
        Edge.refuses("13 the sheets ahead of what is left", Check.ARGUMENT, lots, x -> x.put(0, 0, 501));
        Edge.refuses("13 the sheets ahead of room", Check.ARGUMENT, heaped, x -> x.put(0, 2, 501));
        Edge.refuses("13 what is left ahead of room", Check.MISSING, heaped, x -> x.put(0, 2, 3));
    }

    private static void tariff() {
        Edge.Scene lots = PaperEdgesTest::lots;
        Edge.takes("14 the ream", Check.BOUNDS, 0, 19, PaperEdgesTest::full, (x, n) -> x.tariff(n));
        Edge.answers("14 an empty ream", 0, lots, x -> x.tariff(0));
        Edge.answers("14 none of its own mill", 0, lots, x -> x.put(0, 0, 1) == 1 ? x.tariff(0) : -1);
        Edge.answers("14 two for one of another mill", 2, lots, x -> x.put(0, 0, 2) == 2 ? x.tariff(0) : -1);
        Edge.answers("14 a full ream", 2000, PaperEdgesTest::heaped, x -> x.put(0, 2, 1) == 1000 ? x.tariff(0) : -1);
        Edge.answers("14 an emptied ream", 0, lots, x -> {
            x.put(0, 1, 2);
            x.document(1600, 0);
            x.use(0, 0, 2);
            return x.tariff(0);
        });
        Edge.answers("14 sold in the year of the sheet", 0, lots, x -> {
            x.put(0, 1, 1);
            x.sell(2, 0, 1510);
            return x.tariff(0);
        });
        Edge.answers("14 sold in the year behind it", 2, lots, x -> {
            x.put(0, 1, 1);
            x.sell(2, 0, 1511);
            return x.tariff(0);
        });
        Edge.answers("14 sold to it and on in the year", 2, lots, x -> {
            x.put(0, 1, 1);
            x.sell(2, 0, 1510);
            x.sell(2, 1, 1510);
            return x.tariff(0);
        });
    }

    private static void document() {
        Edge.Scene full = PaperEdgesTest::full;
        Edge.takes("15 the year", Check.ARGUMENT, 1400, 1900, PaperEdgesTest::moulds, (x, n) -> x.document(n, 0));
        Edge.takes("15 the folds", Check.ARGUMENT, 0, 3, PaperEdgesTest::moulds, (x, n) -> x.document(1500, n));
        Edge.answers("15 the twentieth is 19", 0, full, x -> x.run(19, 19));
        Edge.refuses("15 a twenty-first", Check.STATE, full, x -> x.document(1500, 0));
        Edge.refuses("15 the year ahead of room", Check.ARGUMENT, full, x -> x.document(1901, 0));
        Edge.refuses("15 the folds ahead of room", Check.ARGUMENT, full, x -> x.document(1500, -1));
    }

    private static void use() {
        Edge.Scene readers = PaperEdgesTest::readers;
        Edge.Scene thick = PaperEdgesTest::thick;
        Edge.takes("16 the document", Check.BOUNDS, 0, 1, readers, (x, n) -> x.use(n, 0, 1));
        Edge.takes("16 the ream", Check.BOUNDS, 0, 0, readers, (x, n) -> x.use(0, n, 1));
        Edge.takes("16 the sheets", Check.ARGUMENT, 1, 50, readers, (x, n) -> x.use(1, 0, n));
        Edge.answers("16 all that the ream has", 55, readers, x -> x.use(1, 0, 50) + x.use(1, 0, 5) - 50);
        Edge.refuses("16 the ream has fewer left", Check.MISSING, () -> {
            Watermarkmill x = readers();
            x.use(1, 0, 50);
            return x;
        }, x -> x.use(1, 0, 6));
        Edge.refuses("16 the ream is empty", Check.MISSING, PaperEdgesTest::full, x -> x.use(19, 19, 1));
        Edge.answers("16 just a hundred", 100, thick, x -> x.use(0, 0, 1));
        Edge.refuses("16 more than a hundred", Check.STATE, thick, x -> x.use(0, 0, 2));
        Edge.refuses("16 more than a hundred by one", Check.STATE, () -> {
            Watermarkmill x = thick();
            x.use(0, 0, 1);
            return x;
        }, x -> x.use(0, 0, 1));
        Edge.answers("16 the hundredth sheet", 100, thick, x -> x.use(0, 0, 1) == 100 ? x.leafOf(0, 99, 1) : -1);
        Edge.answers("16 of several reams, in turn", "0 200 100", () -> {
            Watermarkmill x = readers();
            x.ream(3);
            x.put(1, 1, 1);
            return x;
        }, x -> {
            x.use(1, 0, 1);
            x.use(1, 1, 1);
            x.use(1, 0, 1);
            return x.leafOf(1, 0, 1) + " " + x.leafOf(1, 1, 1) + " " + x.leafOf(1, 2, 1);
        });
    }

    private static void useAgainstYears() {
        Edge.Scene readers = PaperEdgesTest::readers;
        Edge.answers("16 all made in time", 3, readers, x -> x.use(0, 0, 3));
        Edge.refuses("16 the last one made later", Check.UNSUPPORTED, readers, x -> x.use(0, 0, 4));
        Edge.answers("16 made in the year", 5, readers, x -> x.use(1, 0, 5));
        Edge.refuses("16 the first one made later", Check.UNSUPPORTED, () -> {
            Watermarkmill x = readers();
            x.use(0, 0, 3);
            return x;
        }, x -> x.use(0, 0, 1));
        Edge.refuses("16 made in the year behind it", Check.UNSUPPORTED, () -> {
            Watermarkmill x = readers();
            x.use(1, 0, 3);
            x.document(1509, 0);
            return x;
        }, x -> x.use(2, 0, 1));
        Edge.answers("16 a use that was refused takes none", 3, readers, x -> {
            Check.outcome(() -> x.use(0, 0, 4));
            return x.use(0, 0, 3);
        });
        Edge.answers("16 its dated year is no matter", 5, readers, x -> {
            x.date(1, 1400);
            return x.use(1, 0, 5);
        });
    }

    private static void useOrder() {
        Edge.Scene readers = PaperEdgesTest::readers;
        Edge.Scene thick = PaperEdgesTest::thick;
        Edge.refuses("16 the document ahead of the sheets", Check.BOUNDS, readers, x -> x.use(2, 0, 0));
        Edge.refuses("16 the ream ahead of the sheets", Check.BOUNDS, readers, x -> x.use(0, 1, 51));
        Edge.refuses("16 the document ahead of what is left", Check.BOUNDS, thick, x -> x.use(-1, 0, 3));
        Edge.refuses("16 the ream ahead of room", Check.BOUNDS, thick, x -> x.use(0, 2, 2));
        Edge.refuses("16 the sheets ahead of what is left", Check.ARGUMENT, thick, x -> x.use(0, 0, 51));
        Edge.refuses("16 the sheets ahead of what was made later", Check.ARGUMENT, readers, x -> x.use(0, 0, 51));
        Edge.refuses("16 the sheets ahead of room", Check.ARGUMENT, () -> {
            Watermarkmill x = readers();
            x.use(1, 0, 1);
            x.put(0, 1, 99);
            x.use(1, 0, 49);
            return x;
        }, x -> x.use(1, 0, 51));
        Edge.refuses("16 what is left ahead of what was made later", Check.MISSING, thick, x -> x.use(0, 1, 2));
        Edge.refuses("16 what is left ahead of room", Check.MISSING, thick, x -> x.use(0, 0, 3));
        Edge.refuses("16 what was made later ahead of room", Check.UNSUPPORTED, () -> {
            Watermarkmill x = thick();
            x.use(0, 0, 1);
            return x;
        }, x -> x.use(0, 1, 1));
    }

    private static void cancel() {
        Edge.Scene bound = PaperEdgesTest::bound;
        Edge.Scene empty = PaperEdgesTest::boundAndEmpty;
        Edge.takes("17 the document", Check.BOUNDS, 0, 3, bound, (x, n) -> x.cancel(n, 0, 1, 1));
        Edge.takes("17 the sheet", Check.MISSING, 0, 4, bound, (x, n) -> x.cancel(3, n, 1, 2));
        Edge.takes("17 the other sheet", Check.MISSING, 0, 4, bound, (x, n) -> x.cancel(3, 2, 1, n));
        for (int folds = 0; folds <= 3; folds++) {
            int document = folds;
            Edge.takes("17 the leaf of " + (1 << folds), Check.MISSING, 1, 1 << folds, bound,
                    (x, n) -> x.cancel(document, 0, n, 1));
        }
        Edge.refuses("17 the same", Check.UNSUPPORTED, bound, x -> x.cancel(0, 0, 1, 0));
        Edge.refuses("17 the same, the last one", Check.UNSUPPORTED, bound, x -> x.cancel(3, 4, 8, 4));
        Edge.refuses("17 of an empty document", Check.MISSING, empty, x -> x.cancel(4, 0, 1, 1));
        Edge.refuses("17 the document ahead of the sheet", Check.BOUNDS, bound, x -> x.cancel(5, -1, 1, 0));
        Edge.refuses("17 the document ahead of the same", Check.BOUNDS, bound, x -> x.cancel(-1, 0, 1, 0));
        Edge.refuses("17 the sheet ahead of the same", Check.MISSING, bound, x -> x.cancel(0, 5, 1, 5));
        Edge.refuses("17 the leaf ahead of the same", Check.MISSING, bound, x -> x.cancel(0, 0, 2, 0));
        Edge.answers("17 another mould", true, bound, x -> x.cancel(1, 0, 1, 1));
        Edge.answers("17 the same mould and state", false, bound, x -> x.cancel(1, 0, 1, 2));
        Edge.answers("17 another state", true, () -> {
            Watermarkmill x = bound();
            x.damage(2, 0, true, 1501);
            x.make(2, false, 1501, 1);
            x.put(0, 2, 1);
            x.use(0, 0, 1);
            return x;
        }, x -> x.cancel(0, 4, 1, 5));
    }

    private static void cancels() {
        Edge.Scene bound = PaperEdgesTest::bound;
        Edge.Scene empty = PaperEdgesTest::boundAndEmpty;
        Edge.takes("18 the document", Check.BOUNDS, 0, 3, bound, (x, n) -> x.cancels(n, 0));
        Edge.takes("18 the sheet", Check.MISSING, 0, 4, bound, (x, n) -> x.cancels(3, n));
        Edge.refuses("18 of an empty document", Check.MISSING, empty, x -> x.cancels(4, 0));
        Edge.refuses("18 the document ahead of the sheet", Check.BOUNDS, bound, x -> x.cancels(5, 5));
        Edge.answers("18 none", 0, bound, x -> x.cancels(3, 0));
        int[] most = {0, 1, 2, 4};
        for (int folds = 0; folds <= 3; folds++) {
            int document = folds;
            Edge.answers("18 half of " + (1 << folds) + " leaves", most[folds], bound, x -> {
                for (int leaf = 1; leaf <= Math.max(1, (1 << document) / 2); leaf++) {
                    x.cancel(document, 0, leaf, 1);
                }
                return x.cancels(document, 0);
            });
            Edge.answers("18 all of " + (1 << folds) + " leaves, alike", 0, bound, x -> {
                for (int leaf = 1; leaf <= 1 << document; leaf++) {
                    x.cancel(document, 0, leaf, 1);
                }
                return x.cancels(document, 0);
            });
        }
        Edge.answers("18 cancelled with the same stock", 0, bound, x -> x.cancel(1, 0, 1, 2) ? -1 : x.cancels(1, 0));
        Edge.answers("18 a stock that parts later, by damage", "0 1", () -> {
            Watermarkmill x = bound();
            x.make(2, false, 1501, 1);
            x.put(1, 2, 1);
            x.use(1, 1, 1);
            x.cancel(1, 4, 1, 5);
            return x;
        }, x -> x.cancels(1, 4) + " " + (x.damage(2, 0, false, 1501) == 1 ? x.cancels(1, 4) : -1));
    }

    private static void leafOf() {
        Edge.Scene bound = PaperEdgesTest::bound;
        Edge.Scene empty = PaperEdgesTest::boundAndEmpty;
        Edge.takes("19 the document", Check.BOUNDS, 0, 3, bound, (x, n) -> x.leafOf(n, 0, 1));
        Edge.takes("19 the sheet", Check.MISSING, 0, 4, bound, (x, n) -> x.leafOf(3, n, 1));
        for (int folds = 0; folds <= 3; folds++) {
            int document = folds;
            Edge.takes("19 the leaf of " + (1 << folds), Check.MISSING, 1, 1 << folds, bound,
                    (x, n) -> x.leafOf(document, 0, n));
        }
        Edge.refuses("19 of an empty document", Check.MISSING, empty, x -> x.leafOf(4, 0, 1));
        Edge.refuses("19 the document ahead of the sheet", Check.BOUNDS, bound, x -> x.leafOf(5, -1, 1));
        Edge.refuses("19 the document ahead of the leaf", Check.BOUNDS, bound, x -> x.leafOf(-1, 0, 9));
        Edge.answers("19 the last leaf of the last sheet", 200, bound, x -> x.leafOf(3, 4, 8));
        Edge.answers("19 cancelled", 100, bound, x -> x.cancel(3, 4, 8, 3) ? x.leafOf(3, 4, 8) : -1);
        Edge.answers("19 a cancel that was refused is none", 0, bound, x -> {
            Check.outcome(() -> x.cancel(3, 0, 1, 5));
            return x.leafOf(3, 0, 1);
        });
        Edge.answers("19 cancelled, then back", 200, bound, x -> {
            x.cancel(3, 4, 8, 3);
            x.cancel(3, 3, 8, 4);
            return x.leafOf(3, 3, 8);
        });
        Edge.answers("19 of the last mould in its last state", 1116, () -> {
            Watermarkmill x = moulds();
            for (int i = 3; i < 12; i++) {
                x.copy(0, 0);
            }
            for (int i = 0; i < 16; i++) {
                x.damage(11, i % 8, i >= 8, 1900);
            }
            x.make(11, false, 1900, 1);
            x.ream(0);
            x.put(0, 0, 1);
            x.document(1900, 0);
            x.use(0, 0, 1);
            return x;
        }, x -> x.leafOf(0, 0, 1));
    }

    private static void markIn() {
        Edge.Scene bound = PaperEdgesTest::boundAndEmpty;
        Edge.takes("20 the document", Check.BOUNDS, 0, 4, bound, (x, n) -> x.markIn(n, 1));
        for (int folds = 0; folds <= 3; folds++) {
            int document = folds;
            Edge.takes("20 the leaf of " + (1 << folds), Check.MISSING, 1, 1 << folds, bound,
                    (x, n) -> x.markIn(document, n));
        }
        Edge.refuses("20 the document ahead of the leaf", Check.BOUNDS, bound, x -> x.markIn(5, 0));
        Edge.answers("20 without sheets", 1, bound, x -> x.markIn(4, 8));
        int[][] marks = {{4}, {4, 0}, {2, 0, 0, 2}, {1, 0, 0, 1, 1, 0, 0, 1}};
        for (int folds = 0; folds <= 3; folds++) {
            for (int leaf = 1; leaf <= 1 << folds; leaf++) {
                int document = folds;
                int number = leaf;
                Edge.answers("20 leaf " + leaf + " of " + (1 << folds), marks[folds][leaf - 1], bound,
                        x -> x.markIn(document, number));
            }
        }
    }

    private static void conjugate() {
        Edge.Scene bound = PaperEdgesTest::boundAndEmpty;
        Edge.takesTo("21 the document", Check.BOUNDS, 4, bound, (x, n) -> x.conjugate(n, 1));
        Edge.takesFrom("21 the document", Check.BOUNDS, 0, () -> {
            Watermarkmill x = new Watermarkmill();
            x.document(1500, 1);
            return x;
        }, (x, n) -> x.conjugate(n, 1));
        for (int folds = 1; folds <= 3; folds++) {
            int document = folds;
            int leaves = 1 << folds;
            Edge.takes("21 the leaf of " + leaves, Check.MISSING, 1, leaves, bound, (x, n) -> x.conjugate(document, n));
            for (int leaf = 1; leaf <= leaves; leaf++) {
                int number = leaf;
                Edge.answers("21 leaf " + leaf + " of " + leaves, leaves + 1 - leaf, bound,
                        x -> x.conjugate(document, number));
            }
        }
        Edge.refuses("21 the only leaf", Check.MISSING, bound, x -> x.conjugate(0, 1));
        Edge.refuses("21 none with one leaf", Check.MISSING, bound, x -> x.conjugate(0, 2));
        Edge.refuses("21 the document ahead of the leaf", Check.BOUNDS, bound, x -> x.conjugate(5, 0));
    }

    private static void run() {
        Edge.Scene bound = PaperEdgesTest::boundAndEmpty;
        Edge.takes("22 the document", Check.BOUNDS, 0, 4, bound, (x, n) -> x.run(n, 0));
        Edge.takes("22 the other one", Check.BOUNDS, 0, 4, bound, (x, n) -> x.run(0, n));
        Edge.answers("22 an empty one", 0, bound, x -> x.run(0, 4));
        Edge.answers("22 an empty one with itself", 0, bound, x -> x.run(4, 4));
        Edge.answers("22 with itself", 5, bound, x -> x.run(2, 2));
        Edge.answers("22 all in common", 5, bound, x -> x.run(0, 3));
        Edge.answers("22 a full one with itself", 100, () -> {
            Watermarkmill x = thick();
            x.use(0, 0, 1);
            return x;
        }, x -> x.run(0, 0));
        Edge.answers("22 leaves that were put in are aside", 5, bound, x -> x.cancel(0, 0, 1, 4) ? x.run(0, 1) : -1);
        Edge.Scene last = () -> {
            Watermarkmill x = boundAndEmpty();
            x.make(2, false, 1500, 1);
            x.put(0, 2, 1);
            x.use(4, 0, 1);
            return x;
        };
        Edge.answers("22 at the end of the one, at the start of the other", 1, last, x -> x.run(0, 4));
        Edge.answers("22 at the start of the one, at the end of the other", 1, last, x -> x.run(4, 0));
    }

    private static void wash() {
        Edge.Scene bound = PaperEdgesTest::boundAndEmpty;
        Edge.takes("23 the document", Check.BOUNDS, 0, 4, bound, (x, n) -> x.wash(n));
        Edge.answers("23 it was not", true, bound, x -> x.wash(4));
        Edge.answers("23 it was", false, bound, x -> x.wash(4) && x.wash(4));
        Edge.answers("23 another one was not", true, bound, x -> x.wash(3) && x.wash(4));
    }
}
