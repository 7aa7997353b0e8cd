/** Promises 34 to 46: dating, forgeries and figures. */
final class DatingTest {
    public static void main(String[] args) {
        claim();
        unclaim();
        date();
        setAge();
        fits();
        year();
        yearOverOthers();
        ground();
        culprit();
        forged();
        years();
        usedShare();
        meanAge();
        isSound();
        Check.end();
    }

    private static Watermarkmill withDocuments(int count) {
        Watermarkmill x = new Watermarkmill();
        x.mould(0, 0, 100, 100, 100, 100);
        x.mould(0, 1, 100, 100, 100, 100);
        x.mould(0, 2, 100, 100, 100, 100);
        for (int i = 0; i < count; i++) {
            x.document(1500, 0);
        }
        return x;
    }

    private static String bounds(Watermarkmill x, int document) {
        return x.year(document, false) + "-" + x.year(document, true);
    }

    private static void claim() {
        Watermarkmill x = withDocuments(2);
        Check.thrown("34 no document", Check.BOUNDS, () -> x.claim(2, 0, 99));
        Check.thrown("34 no mould", Check.BOUNDS, () -> x.claim(0, 3, 99));
        Check.thrown("34 state", Check.ARGUMENT, () -> x.claim(0, 0, 21));
        Check.thrown("34 state below", Check.ARGUMENT, () -> x.claim(0, 0, -1));
        Check.due("34 first", x.claim(0, 0, 0), 1);
        Check.thrown("34 again", Check.UNSUPPORTED, () -> x.claim(0, 0, 0));
        Check.due("34 a state that is not yet", x.claim(0, 0, 20), 2);
        Check.due("34 of another document", x.claim(1, 0, 0), 1);
        for (int i = 3; i <= 6; i++) {
            Check.due("34 more", x.claim(0, 1, i), i);
        }
        Check.thrown("34 a seventh", Check.STATE, () -> x.claim(0, 1, 0));
        Check.thrown("34 again ahead of full", Check.UNSUPPORTED, () -> x.claim(0, 1, 6));
        Check.due("34 five are left", x.unclaim(0, 1, 6), 5);
        Check.due("34 room again", x.claim(0, 1, 0), 6);
    }

    private static void unclaim() {
        Watermarkmill x = withDocuments(2);
        x.claim(0, 0, 1);
        x.claim(0, 1, 1);
        Check.thrown("35 no document", Check.BOUNDS, () -> x.unclaim(2, 0, 1));
        Check.thrown("35 no mould", Check.BOUNDS, () -> x.unclaim(0, 3, 1));
        Check.thrown("35 another state", Check.MISSING, () -> x.unclaim(0, 0, 0));
        Check.thrown("35 no such state", Check.MISSING, () -> x.unclaim(0, 0, 33));
        Check.thrown("35 state below", Check.MISSING, () -> x.unclaim(0, 0, -31));
        Check.thrown("35 another document", Check.MISSING, () -> x.unclaim(1, 0, 1));
        Check.due("35 left", x.unclaim(0, 0, 1), 1);
        Check.thrown("35 again", Check.MISSING, () -> x.unclaim(0, 0, 1));
        Check.due("35 none left", x.unclaim(0, 1, 1), 0);
        x.claim(0, 0, 20);
        Check.due("35 the last state", x.unclaim(0, 0, 20), 0);
        x.claim(0, 0, 1);
        x.claim(1, 0, 0);
        x.date(0, 1500);
        Check.due("35 it bears", x.year(1, true), 1512);
        x.unclaim(1, 0, 0);
        Check.due("35 it bears no longer", x.year(1, true), 1900);
    }

    private static void date() {
        Watermarkmill x = withDocuments(1);
        Check.thrown("36 no document", Check.BOUNDS, () -> x.date(1, 1));
        Check.thrown("36 below", Check.ARGUMENT, () -> x.date(0, 1399));
        Check.thrown("36 above", Check.ARGUMENT, () -> x.date(0, 1901));
        Check.thrown("36 negative", Check.ARGUMENT, () -> x.date(0, -1));
        Check.due("36 first", x.date(0, 1400), 0);
        Check.due("36 another one", x.date(0, 1900), 1400);
        Check.due("36 it counts", bounds(x, 0), "1900-1900");
        Check.due("36 none", x.date(0, 0), 1900);
        Check.due("36 it counts no longer", bounds(x, 0), "1400-1900");
        Check.due("36 none again", x.date(0, 0), 0);
    }

    private static void setAge() {
        Watermarkmill x = withDocuments(2);
        Check.thrown("37 above", Check.ARGUMENT, () -> x.setAge(101));
        Check.thrown("37 below", Check.ARGUMENT, () -> x.setAge(-1));
        Check.due("37 at first", x.setAge(100), 12);
        x.claim(0, 0, 0);
        x.claim(1, 0, 1);
        x.date(1, 1500);
        Check.due("37 it counts", x.year(0, true), 1600);
        Check.due("37 before", x.setAge(0), 100);
        Check.due("37 no age", x.year(0, true), 1500);
        x.date(0, 1500);
        Check.due("37 in one year", x.fits(), true);
        Check.due("37 unrelated documents", x.document(1500, 0), 2);
        Check.due("37 stay free without age", bounds(x, 2), "1400-1900");
    }

    private static void fits() {
        Watermarkmill x = withDocuments(3);
        Check.due("38 nothing told", x.fits(), true);
        x.claim(0, 0, 0);
        x.claim(1, 0, 1);
        x.date(0, 1512);
        x.date(1, 1500);
        Check.due("38 just", x.fits(), true);
        x.date(0, 1513);
        Check.due("38 not any more", x.fits(), false);
        x.setAge(13);
        Check.due("38 by an older sheet", x.fits(), true);
        x.date(0, 1526);
        Check.due("38 not by two ages", x.fits(), false);
        x.unclaim(0, 0, 0);
        x.claim(0, 1, 0);
        x.claim(2, 1, 1);
        x.claim(2, 0, 0);
        Check.due("38 over an undated one", x.fits(), true);
        x.date(0, 1527);
        Check.due("38 not over it", x.fits(), false);
        x.date(0, 1526);
        x.date(2, 1513);
        Check.due("38 with its only year", x.fits(), true);
        x.claim(1, 0, 0);
        x.claim(0, 0, 1);
        Check.due("38 more that does not bear", x.fits(), true);
    }

    private static void year() {
        Watermarkmill x = withDocuments(3);
        Check.thrown("39 no document", Check.BOUNDS, () -> x.year(3, true));
        Check.due("39 free", bounds(x, 0), "1400-1900");
        x.claim(0, 0, 3);
        x.claim(1, 0, 7);
        x.date(1, 1500);
        Check.due("39 the earlier state", bounds(x, 0), "1400-1512");
        x.date(1, 0);
        x.date(0, 1500);
        Check.due("39 the later state", bounds(x, 1), "1488-1900");
        Check.due("39 its date", bounds(x, 0), "1500-1500");
        x.claim(2, 0, 3);
        Check.due("39 one state does not bind", bounds(x, 2), "1400-1900");
        x.date(1, 1487);
        Check.thrown("39 nothing fits", Check.UNSUPPORTED, () -> x.year(2, true));
        Check.thrown("39 no document first", Check.BOUNDS, () -> x.year(-1, true));
    }

    private static void yearOverOthers() {
        Watermarkmill x = withDocuments(4);
        x.claim(0, 0, 0);
        x.claim(1, 0, 1);
        x.claim(1, 1, 0);
        x.claim(2, 1, 1);
        x.claim(2, 2, 5);
        x.claim(3, 2, 6);
        x.date(3, 1450);
        Check.due("39 over one", bounds(x, 2), "1400-1462");
        Check.due("39 over two", bounds(x, 1), "1400-1474");
        Check.due("39 over three", bounds(x, 0), "1400-1486");
        x.date(1, 1465);
        Check.due("39 nearer", bounds(x, 0), "1400-1477");
        Check.due("39 from both", bounds(x, 2), "1453-1462");
        x.date(3, 1400);
        Check.thrown("39 too far apart", Check.UNSUPPORTED, () -> x.year(0, false));
        x.date(1, 0);
        Check.due("39 at the edge", bounds(x, 2), "1400-1412");
        x.date(3, 0);
        x.date(0, 1900);
        Check.due("39 at the other edge", bounds(x, 3), "1864-1900");
    }

    private static void ground() {
        Watermarkmill x = withDocuments(4);
        Check.thrown("40 no document", Check.BOUNDS, () -> x.ground(4, true));
        Check.thrown("40 none", Check.MISSING, () -> x.ground(0, true));
        x.claim(3, 0, 0);
        x.claim(1, 0, 1);
        x.claim(2, 0, 1);
        x.date(2, 1500);
        Check.due("40 the one", x.ground(3, true), 2);
        Check.thrown("40 not of the first year", Check.MISSING, () -> x.ground(3, false));
        x.date(1, 1500);
        Check.thrown("40 two for the same, so none", Check.MISSING, () -> x.ground(3, true));
        x.date(1, 1499);
        Check.due("40 the narrower one", x.ground(3, true), 1);
        x.date(3, 1505);
        Check.thrown("40 its own date", Check.MISSING, () -> x.ground(3, true));
        x.date(3, 0);
        x.date(1, 1900);
        x.date(2, 1888);
        Check.thrown("40 the edge is of itself", Check.MISSING, () -> x.ground(3, true));
        x.claim(0, 0, 0);
        x.date(0, 1700);
        x.date(2, 1650);
        Check.thrown("40 nothing fits", Check.UNSUPPORTED, () -> x.ground(3, true));
        x.date(2, 0);
        Check.due("40 of a first year", x.ground(2, false), 0);
    }

    private static void culprit() {
        Watermarkmill x = withDocuments(4);
        Check.thrown("41 all fits", Check.UNSUPPORTED, x::culprit);
        x.claim(1, 0, 0);
        x.claim(2, 0, 1);
        x.date(0, 1450);
        x.date(1, 1600);
        x.date(2, 1500);
        Check.due("41 the lowest of two", x.culprit(), 1);
        x.claim(3, 0, 0);
        x.date(3, 1600);
        Check.due("41 the one of both", x.culprit(), 2);
        x.claim(0, 0, 1);
        Check.thrown("41 no single one", Check.MISSING, x::culprit);
        x.date(0, 0);
        x.date(2, 0);
        Check.thrown("41 fits again", Check.UNSUPPORTED, x::culprit);
    }

    private static void forged() {
        Watermarkmill x = withDocuments(3);
        Check.thrown("42 no document", Check.BOUNDS, () -> x.forged(3, 0));
        Check.thrown("42 below", Check.ARGUMENT, () -> x.forged(0, 1399));
        Check.thrown("42 above", Check.ARGUMENT, () -> x.forged(0, 1901));
        x.claim(0, 0, 0);
        x.claim(1, 0, 1);
        x.claim(1, 1, 0);
        x.claim(2, 1, 1);
        x.date(0, 1500);
        x.date(2, 1490);
        Check.due("42 the first year can be", x.forged(1, 1488), '-');
        Check.due("42 its paper is later", x.forged(1, 1487), 'l');
        Check.due("42 the last year can be", x.forged(1, 1502), '-');
        Check.due("42 its paper is earlier", x.forged(1, 1503), 'e');
        x.date(1, 1900);
        Check.due("42 its own date aside", x.forged(1, 1500), '-');
        Check.thrown("42 nothing fits for another", Check.UNSUPPORTED, () -> x.forged(0, 1500));
        Check.thrown("42 range ahead of that", Check.ARGUMENT, () -> x.forged(0, 0));
        x.date(0, 1700);
        Check.thrown("42 nor for itself", Check.UNSUPPORTED, () -> x.forged(1, 1500));
    }

    private static void years() {
        Watermarkmill x = withDocuments(2);
        Check.due("43 free", x.years(), 1002L);
        x.date(0, 1500);
        Check.due("43 one dated", x.years(), 502L);
        x.claim(0, 0, 1);
        x.claim(1, 0, 0);
        Check.due("43 bound", x.years(), 114L);
        x.date(1, 1600);
        Check.thrown("43 nothing fits", Check.UNSUPPORTED, x::years);
    }

    private static void usedShare() {
        Watermarkmill x = withDocuments(1);
        Check.thrown("44 none made", Check.ARITHMETIC, x::usedShare);
        x.make(0, false, 1500, 7);
        Check.due("44 none used", x.usedShare(), 0f);
        x.ream(0);
        x.put(0, 0, 5);
        x.use(0, 0, 2);
        Check.due("44 some", x.usedShare(), 2f / 7f);
        x.make(0, false, 1500, 3);
        Check.due("44 of all", x.usedShare(), 0.2f);
    }

    private static void meanAge() {
        Watermarkmill x = withDocuments(1);
        x.make(0, false, 1490, 3);
        x.ream(0);
        x.put(0, 0, 3);
        Check.thrown("45 none", Check.MISSING, x::meanAge);
        x.use(0, 0, 2);
        Check.due("45 alike", x.meanAge(), 10.0);
        x.document(1495, 0);
        x.use(1, 0, 1);
        Check.due("45 unlike", x.meanAge(), 25.0 / 3.0);
        x.date(0, 1600);
        Check.due("45 claims and dates are apart", x.meanAge(), 25.0 / 3.0);
    }

    private static void isSound() {
        Watermarkmill x = withDocuments(3);
        Check.due("46 sound ahead of all", x.isSound(), true);
        x.make(0, false, 1500, 5);
        x.ream(0);
        x.put(0, 0, 4);
        x.use(0, 0, 3);
        x.damage(0, 0, false, 1500);
        x.damage(0, 0, true, 1500);
        x.claim(0, 0, 0);
        x.claim(1, 0, 1);
        x.date(0, 1512);
        Check.due("46 sound with one date", x.isSound(), true);
        x.date(1, 1500);
        Check.due("46 sound with two", x.isSound(), true);
        x.date(0, 1513);
        Check.due("46 sound though nothing fits", x.isSound(), true);
    }
}
