/** The edges of the promises 34 to 46: too small, too large, empty, full, or refused, and what is just taken. */
final class DatingEdgesTest {
    public static void main(String[] args) {
        claim();
        unclaim();
        date();
        setAge();
        fits();
        fitsByState();
        year();
        yearInChain();
        yearInEachOrder();
        ground();
        culprit();
        forged();
        forgedOrder();
        years();
        usedShare();
        meanAge();
        isSound();
        Check.end();
    }

    private static Watermarkmill documents(int count) {
        Watermarkmill x = new Watermarkmill();
        x.mould(0, 0, 100, 100, 100, 100);
        x.mould(0, 1, 100, 100, 100, 100);
        for (int i = 0; i < count; i++) {
            x.document(1500, 0);
        }
        return x;
    }

    /** Three documents: 0 has the state 0 of mould 0, and 1 the state 1; 2 has nothing. */
    private static Watermarkmill pair() {
        Watermarkmill x = documents(3);
        x.claim(0, 0, 0);
        x.claim(1, 0, 1);
        return x;
    }

    /** The same, the document 1 dated 1500, so that the document 0 is of 1512 at most. */
    private static Watermarkmill dated() {
        Watermarkmill x = pair();
        x.date(1, 1500);
        return x;
    }

    /** The same, but the document 0 dated 1513: nothing fits. */
    private static Watermarkmill torn() {
        Watermarkmill x = dated();
        x.date(0, 1513);
        return x;
    }

    /** Three documents; all six stocks of document 0 are claimed, the states 0 to 5 of mould 1. */
    private static Watermarkmill six() {
        Watermarkmill x = documents(3);
        for (int state = 0; state < 6; state++) {
            x.claim(0, 1, state);
        }
        return x;
    }

    /** Twenty documents, each but the last one of an earlier state than the next one, of the one mould or the other. */
    private static Watermarkmill chain() {
        Watermarkmill x = documents(20);
        for (int i = 0; i < 19; i++) {
            x.claim(i, i % 2, 20 - i - 1);
            x.claim(i + 1, i % 2, 20 - i);
        }
        return x;
    }

    private static void claim() {
        Edge.Scene pair = DatingEdgesTest::pair;
        Edge.Scene six = DatingEdgesTest::six;
        Edge.takes("34 the document", Check.BOUNDS, 0, 2, pair, (x, n) -> x.claim(n, 1, 0));
        Edge.takes("34 the mould", Check.BOUNDS, 0, 1, pair, (x, n) -> x.claim(2, n, 0));
        Edge.takes("34 the state", Check.ARGUMENT, 0, 20, pair, (x, n) -> x.claim(2, 0, n));
        Edge.refuses("34 claimed already", Check.UNSUPPORTED, pair, x -> x.claim(0, 0, 0));
        Edge.answers("34 the same of another document", 1, pair, x -> x.claim(2, 0, 0));
        Edge.answers("34 the same state of another mould", 2, pair, x -> x.claim(0, 1, 0));
        Edge.answers("34 the sixth", 6, six, x -> x.unclaim(0, 1, 5) + x.claim(0, 0, 20) - 5);
        Edge.refuses("34 a seventh", Check.STATE, six, x -> x.claim(0, 0, 0));
        Edge.answers("34 another document has room", 1, six, x -> x.claim(1, 0, 0));
        Edge.refuses("34 the document ahead of the state", Check.BOUNDS, pair, x -> x.claim(3, 0, 21));
        Edge.refuses("34 the mould ahead of the state", Check.BOUNDS, pair, x -> x.claim(0, 2, -1));
        Edge.refuses("34 the mould ahead of room", Check.BOUNDS, six, x -> x.claim(0, 2, 0));
        Edge.refuses("34 the state ahead of room", Check.ARGUMENT, six, x -> x.claim(0, 0, 21));
        Edge.refuses("34 claimed already ahead of room", Check.UNSUPPORTED, six, x -> x.claim(0, 1, 5));
    }

    private static void unclaim() {
        Edge.Scene pair = DatingEdgesTest::pair;
        Edge.Scene six = DatingEdgesTest::six;
        Edge.Scene outer = () -> {
            Watermarkmill x = documents(1);
            x.claim(0, 0, 0);
            x.claim(0, 1, 0);
            x.claim(0, 0, 20);
            return x;
        };
        Edge.takes("35 the document", Check.BOUNDS, 0, 1, DatingEdgesTest::both, (x, n) -> x.unclaim(n, 0, 0));
        Edge.takes("35 the mould", Check.BOUNDS, 0, 1, outer, (x, n) -> x.unclaim(0, n, 0));
        Edge.takes("35 the state", Check.MISSING, 0, 20, outer, (x, n) -> x.unclaim(0, 0, n));
        Edge.refuses("35 a state between", Check.MISSING, outer, x -> x.unclaim(0, 0, 1));
        Edge.refuses("35 a state that is 32 more", Check.MISSING, outer, x -> x.unclaim(0, 0, 32));
        Edge.refuses("35 a state that is 32 less", Check.MISSING, outer, x -> x.unclaim(0, 0, -32));
        Edge.refuses("35 a state that is 64 more than the last", Check.MISSING, outer, x -> x.unclaim(0, 0, 84));
        Edge.refuses("35 of another document", Check.MISSING, pair, x -> x.unclaim(1, 0, 0));
        Edge.refuses("35 of another mould", Check.MISSING, pair, x -> x.unclaim(0, 1, 0));
        Edge.refuses("35 of a document without claims", Check.MISSING, pair, x -> x.unclaim(2, 0, 0));
        Edge.refuses("35 taken back already", Check.MISSING, () -> {
            Watermarkmill x = pair();
            x.unclaim(0, 0, 0);
            return x;
        }, x -> x.unclaim(0, 0, 0));
        Edge.answers("35 none left", 0, pair, x -> x.unclaim(0, 0, 0));
        Edge.answers("35 five left", 5, six, x -> x.unclaim(0, 1, 0));
        Edge.refuses("35 the document ahead of the claim", Check.BOUNDS, pair, x -> x.unclaim(3, 0, 5));
        Edge.refuses("35 the mould ahead of the claim", Check.BOUNDS, pair, x -> x.unclaim(0, 2, 21));
        Edge.answers("35 just what rested on it is moved", "1900 1512", () -> {
            Watermarkmill x = dated();
            x.claim(2, 0, 0);
            return x;
        }, x -> x.unclaim(0, 0, 0) == 0 ? x.year(0, true) + " " + x.year(2, true) : "");
    }

    /** Two documents with the same claim. */
    private static Watermarkmill both() {
        Watermarkmill x = documents(2);
        x.claim(0, 0, 0);
        x.claim(1, 0, 0);
        return x;
    }

    private static void date() {
        Edge.Scene dated = DatingEdgesTest::dated;
        Edge.takes("36 the document", Check.BOUNDS, 0, 2, dated, (x, n) -> x.date(n, 1500));
        Edge.takes("36 the year", Check.ARGUMENT, 1400, 1900, dated, (x, n) -> x.date(0, n));
        Edge.refuses("36 next to none", Check.ARGUMENT, dated, x -> x.date(1, 1));
        Edge.refuses("36 below none", Check.ARGUMENT, dated, x -> x.date(1, -1));
        Edge.refuses("36 the document ahead of the year", Check.BOUNDS, dated, x -> x.date(3, 1901));
        Edge.answers("36 none before", 0, dated, x -> x.date(0, 1500));
        Edge.answers("36 the one before", 1500, dated, x -> x.date(1, 1600));
        Edge.answers("36 none in its place", 1900, dated, x -> x.date(1, 0) == 1500 ? x.year(0, true) : -1);
        Edge.answers("36 a date that does not fit is taken", 0, dated, x -> x.date(0, 1900));
        Edge.answers("36 a date that was refused is none", 1500, dated, x -> {
            Check.outcome(() -> x.date(1, 1399));
            return x.date(1, 0);
        });
        Edge.answers("36 just what rested on it is moved", "1900 1512", () -> {
            Watermarkmill x = documents(4);
            x.claim(0, 0, 0);
            x.claim(1, 0, 1);
            x.claim(2, 1, 0);
            x.claim(3, 1, 1);
            x.date(1, 1600);
            x.date(3, 1500);
            return x;
        }, x -> x.date(1, 0) == 1600 ? x.year(0, true) + " " + x.year(2, true) : "");
    }

    private static void setAge() {
        Edge.Scene dated = DatingEdgesTest::dated;
        Edge.takes("37 the age", Check.ARGUMENT, 0, 100, dated, (x, n) -> x.setAge(n));
        Edge.answers("37 the one before", 100, dated, x -> x.setAge(100) == 12 ? x.setAge(0) : -1);
        Edge.answers("37 no age", 1500, dated, x -> x.setAge(0) == 12 ? x.year(0, true) : -1);
        Edge.answers("37 the greatest age", 1600, dated, x -> x.setAge(100) == 12 ? x.year(0, true) : -1);
    }

    private static void fits() {
        Edge.answers("38 without documents", true, Watermarkmill::new, x -> x.fits());
        Edge.answers("38 without claims", true, () -> documents(20), x -> x.date(0, 1400) == 0 && x.fits());
        for (int age : new int[] {0, 1, 12, 100}) {
            Edge.answers("38 just by the age " + age, true, DatingEdgesTest::dated, x -> fits(x, age, 1500 + age));
            Edge.answers("38 beyond the age " + age, false, DatingEdgesTest::dated, x -> fits(x, age, 1501 + age));
            Edge.answers("38 any earlier with the age " + age, true, DatingEdgesTest::dated, x -> fits(x, age, 1400));
        }
        Edge.answers("38 from end to end", false, DatingEdgesTest::pair, x -> {
            x.setAge(100);
            x.date(0, 1900);
            x.date(1, 1400);
            return x.fits();
        });
        Edge.answers("38 a document against itself", true, () -> documents(1), x -> {
            x.setAge(0);
            x.claim(0, 0, 20);
            x.claim(0, 0, 0);
            x.date(0, 1400);
            return x.fits();
        });
        Edge.answers("38 each ahead of the other, in a year", true, DatingEdgesTest::crossed, x -> fits(x, 0, 1500));
        Edge.answers("38 each ahead of the other, later", false, DatingEdgesTest::crossed, x -> fits(x, 0, 1501));
        Edge.answers("38 each ahead of the other, earlier", false, DatingEdgesTest::crossed, x -> fits(x, 0, 1499));
        Edge.answers("38 each ahead of the other, with an age", true, DatingEdgesTest::crossed, x -> fits(x, 1, 1499));
    }

    /** Two documents, each of an earlier and a later state than the other one; the document 1 dated 1500. */
    private static Watermarkmill crossed() {
        Watermarkmill x = documents(2);
        x.claim(0, 0, 0);
        x.claim(1, 0, 1);
        x.claim(1, 1, 0);
        x.claim(0, 1, 1);
        x.date(1, 1500);
        return x;
    }

    private static boolean fits(Watermarkmill x, int age, int date) {
        x.setAge(age);
        x.date(0, date);
        return x.fits();
    }

    private static void fitsByState() {
        int[][] states = {{0, 0, 1}, {0, 1, 0}, {1, 0, 1}, {20, 20, 1}, {19, 20, 0}, {20, 19, 1}, {0, 20, 0},
            {20, 0, 1}};
        for (int[] s : states) {
            Edge.answers("38 the state " + s[0] + " behind the state " + s[1], s[2] == 1, () -> documents(2), x -> {
                x.claim(0, 0, s[0]);
                x.claim(1, 0, s[1]);
                x.date(0, 1600);
                x.date(1, 1500);
                return x.fits();
            });
            Edge.answers("38 unlike moulds do not bind, " + s[0] + " and " + s[1], true, () -> documents(2), x -> {
                x.claim(0, 0, s[0]);
                x.claim(1, 1, s[1]);
                x.date(0, 1600);
                x.date(1, 1500);
                return x.fits();
            });
        }
    }

    private static String bounds(Watermarkmill x, int document) {
        return x.year(document, false) + "-" + x.year(document, true);
    }

    private static void year() {
        Edge.Scene dated = DatingEdgesTest::dated;
        Edge.takes("39 the document", Check.BOUNDS, 0, 2, dated, (x, n) -> x.year(n, true));
        Edge.takes("39 the document, its first year", Check.BOUNDS, 0, 2, dated, (x, n) -> x.year(n, false));
        Edge.refuses("39 nothing fits", Check.UNSUPPORTED, DatingEdgesTest::torn, x -> x.year(0, true));
        Edge.refuses("39 nor of another one", Check.UNSUPPORTED, DatingEdgesTest::torn, x -> x.year(2, false));
        Edge.refuses("39 the document ahead of that", Check.BOUNDS, DatingEdgesTest::torn, x -> x.year(3, true));
        Edge.answers("39 all years", "1400-1900", dated, x -> bounds(x, 2));
        Edge.answers("39 its date", "1500-1500", dated, x -> bounds(x, 1));
        Edge.answers("39 of an earlier state", "1400-1512", dated, x -> bounds(x, 0));
        Edge.answers("39 not beyond the last year", "1400-1900", dated, x -> x.date(1, 1889) > 0 ? bounds(x, 0) : "");
        Edge.answers("39 just the last year but one", "1400-1899", dated, x -> x.date(1, 1887) > 0 ? bounds(x, 0) : "");
        Edge.answers("39 of the first year", "1400-1412", dated, x -> x.date(1, 1400) > 0 ? bounds(x, 0) : "");
        Edge.answers("39 of a later state", "1488-1900", DatingEdgesTest::pair,
                x -> x.date(0, 1500) == 0 ? bounds(x, 1) : "");
        Edge.answers("39 not ahead of the first year", "1400-1900", DatingEdgesTest::pair,
                x -> x.date(0, 1411) == 0 ? bounds(x, 1) : "");
        Edge.answers("39 just the first year but one", "1401-1900", DatingEdgesTest::pair,
                x -> x.date(0, 1413) == 0 ? bounds(x, 1) : "");
        Edge.answers("39 of the last year", "1888-1900", DatingEdgesTest::pair,
                x -> x.date(0, 1900) == 0 ? bounds(x, 1) : "");
    }

    private static void yearInChain() {
        Edge.Scene chain = DatingEdgesTest::chain;
        Edge.answers("39 over nineteen others", "1400-1628", chain, x -> x.date(19, 1400) == 0 ? bounds(x, 0) : "");
        Edge.answers("39 over nineteen others, back", "1672-1900", chain,
                x -> x.date(0, 1900) == 0 ? bounds(x, 19) : "");
        Edge.answers("39 over all years and more", "1400-1900", chain, x -> {
            x.setAge(100);
            x.date(19, 1400);
            return bounds(x, 0);
        });
        Edge.answers("39 without age all is of a year at most", "1400-1400", chain, x -> {
            x.setAge(0);
            x.date(19, 1400);
            return bounds(x, 0);
        });
        Edge.answers("39 over one that is taken away", "1400-1900", chain, x -> {
            x.date(19, 1400);
            x.unclaim(10, 0, 9);
            return bounds(x, 0);
        });
    }

    /** Three documents in a chain of ages: 'first' has the earliest state, then 'middle', then 'last', dated 1500. */
    private static Watermarkmill three(int first, int middle, int last) {
        Watermarkmill x = documents(3);
        x.claim(first, 0, 0);
        x.claim(middle, 0, 1);
        x.claim(middle, 1, 0);
        x.claim(last, 1, 1);
        x.date(last, 1500);
        return x;
    }

    private static void yearInEachOrder() {
        int[][] orders = {{0, 1, 2}, {0, 2, 1}, {1, 0, 2}, {1, 2, 0}, {2, 0, 1}, {2, 1, 0}};
        for (int[] o : orders) {
            String by = " by " + o[0] + " " + o[1] + " " + o[2];
            Edge.Scene scene = () -> three(o[0], o[1], o[2]);
            Edge.answers("39 over another one" + by, 1524, scene, x -> x.year(o[0], true));
            Edge.answers("39 the one between" + by, 1512, scene, x -> x.year(o[1], true));
            Edge.answers("40 over another one" + by, o[2], scene, x -> x.ground(o[0], true));
            Edge.answers("38 just" + by, true, scene, x -> x.date(o[0], 1524) == 0 && x.fits());
            Edge.answers("38 not any more" + by, false, scene, x -> x.date(o[0], 1525) == 0 && x.fits());
            Edge.answers("41 the lower one" + by, Math.min(o[0], o[2]), scene,
                    x -> x.date(o[0], 1525) == 0 ? x.culprit() : -1);
            Edge.answers("39 from the other end" + by, 1576, scene, x -> {
                x.date(o[2], 0);
                x.date(o[0], 1600);
                return x.year(o[2], false);
            });
        }
    }

    private static void ground() {
        Edge.Scene dated = DatingEdgesTest::dated;
        Edge.Scene torn = DatingEdgesTest::torn;
        Edge.takesTo("40 the document", Check.BOUNDS, 1, DatingEdgesTest::later, (x, n) -> x.ground(n, true));
        Edge.takesFrom("40 the document", Check.BOUNDS, 0, dated, (x, n) -> x.ground(n, true));
        Edge.refuses("40 nothing fits", Check.UNSUPPORTED, torn, x -> x.ground(0, true));
        Edge.refuses("40 nothing fits, ahead of none", Check.UNSUPPORTED, torn, x -> x.ground(2, true));
        Edge.refuses("40 the document ahead of that", Check.BOUNDS, torn, x -> x.ground(3, true));
        Edge.refuses("40 the document ahead of none", Check.BOUNDS, DatingEdgesTest::pair, x -> x.ground(-1, true));
        Edge.refuses("40 none is dated", Check.MISSING, DatingEdgesTest::pair, x -> x.ground(0, true));
        Edge.refuses("40 not of itself", Check.MISSING, dated, x -> x.ground(1, true));
        Edge.refuses("40 of the other bound", Check.MISSING, dated, x -> x.ground(0, false));
        Edge.refuses("40 of one that is bound by none", Check.MISSING, dated, x -> x.ground(2, true));
        Edge.answers("40 the one", 1, dated, x -> x.ground(0, true));
        Edge.answers("40 just a year ahead of the last one", 1, dated,
                x -> x.date(1, 1887) > 0 ? x.ground(0, true) : -1);
        Edge.refuses("40 the last year is so without it", Check.MISSING, () -> {
            Watermarkmill x = pair();
            x.date(1, 1888);
            return x;
        }, x -> x.ground(0, true));
        Edge.refuses("40 two that tell the same", Check.MISSING, () -> {
            Watermarkmill x = dated();
            x.claim(2, 0, 2);
            x.date(2, 1500);
            return x;
        }, x -> x.ground(0, true));
        Edge.answers("40 of two the nearer one", 2, () -> {
            Watermarkmill x = dated();
            x.claim(2, 0, 2);
            x.date(2, 1499);
            return x;
        }, x -> x.ground(0, true));
        Edge.answers("40 over others", 19, DatingEdgesTest::chain, x -> x.date(19, 1400) == 0 ? x.ground(0, true) : -1);
    }

    /** Two documents, 1 with an earlier state than 0, which is dated. */
    private static Watermarkmill later() {
        Watermarkmill x = documents(2);
        x.claim(0, 0, 1);
        x.claim(1, 0, 0);
        x.date(0, 1500);
        return x;
    }

    private static void culprit() {
        Edge.refuses("41 all fits without documents", Check.UNSUPPORTED, Watermarkmill::new, x -> x.culprit());
        Edge.refuses("41 all fits", Check.UNSUPPORTED, DatingEdgesTest::dated, x -> x.culprit());
        Edge.answers("41 the lowest of two", 0, DatingEdgesTest::torn, x -> x.culprit());
        Edge.answers("41 the only one", 1, () -> {
            Watermarkmill x = torn();
            x.claim(2, 0, 0);
            x.date(2, 1600);
            return x;
        }, x -> x.culprit());
        Edge.answers("41 the last of twenty", 19, () -> {
            Watermarkmill x = documents(20);
            for (int i = 0; i < 19; i++) {
                x.claim(i, 0, 0);
                x.date(i, 1600);
            }
            x.claim(19, 0, 1);
            x.date(19, 1500);
            return x;
        }, x -> x.culprit());
        Edge.refuses("41 no single one", Check.MISSING, () -> {
            Watermarkmill x = documents(4);
            for (int i = 0; i < 4; i++) {
                x.claim(i, i / 2, i % 2);
                x.date(i, 1600 - 100 * (i % 2));
            }
            return x;
        }, x -> x.culprit());
    }

    private static void forged() {
        Edge.Scene dated = DatingEdgesTest::dated;
        Edge.takes("42 the document", Check.BOUNDS, 0, 2, dated, (x, n) -> x.forged(n, 1500));
        Edge.takes("42 the year", Check.ARGUMENT, 1400, 1900, dated, (x, n) -> x.forged(0, n));
        Edge.answers("42 the last year that it can have", '-', dated, x -> x.forged(0, 1512));
        Edge.answers("42 its paper is earlier", 'e', dated, x -> x.forged(0, 1513));
        Edge.answers("42 at the last of all years", 'e', dated, x -> x.forged(0, 1900));
        Edge.answers("42 at the first of all years", '-', dated, x -> x.forged(0, 1400));
        Edge.Scene later = () -> {
            Watermarkmill x = pair();
            x.date(0, 1500);
            return x;
        };
        Edge.answers("42 the first year that it can have", '-', later, x -> x.forged(1, 1488));
        Edge.answers("42 its paper is later", 'l', later, x -> x.forged(1, 1487));
        Edge.answers("42 its own date aside", '-', dated, x -> x.forged(1, 1900));
        Edge.answers("42 its own date is aside though nothing fits with it", 'e', DatingEdgesTest::torn,
                x -> x.forged(0, 1513));
        Edge.answers("42 its date is as it was", 1500, dated, x -> x.forged(1, 1900) == '-' ? x.date(1, 0) : -1);
    }

    private static void forgedOrder() {
        Edge.Scene torn = DatingEdgesTest::torn;
        Edge.refuses("42 nothing fits, its own date aside", Check.UNSUPPORTED, torn, x -> x.forged(2, 1500));
        Edge.refuses("42 the document ahead of the year", Check.BOUNDS, torn, x -> x.forged(3, 1399));
        Edge.refuses("42 the document ahead of what fits", Check.BOUNDS, torn, x -> x.forged(-1, 1500));
        Edge.refuses("42 the year ahead of what fits", Check.ARGUMENT, torn, x -> x.forged(2, 1901));
    }

    private static void years() {
        Edge.answers("43 without documents", 0L, Watermarkmill::new, x -> x.years());
        Edge.answers("43 one document", 501L, () -> documents(1), x -> x.years());
        Edge.answers("43 twenty documents", 10020L, () -> documents(20), x -> x.years());
        Edge.answers("43 a year of its own", 1L, () -> documents(1), x -> x.date(0, 1900) == 0 ? x.years() : -1);
        Edge.answers("43 one bound, one dated, one free", 113L + 1 + 501, DatingEdgesTest::dated, x -> x.years());
        Edge.refuses("43 nothing fits", Check.UNSUPPORTED, DatingEdgesTest::torn, x -> x.years());
    }

    /** As many sheets as can be made, 15000, and as many of them used as documents can have, 2000. */
    private static Watermarkmill heaps() {
        Watermarkmill x = documents(20);
        for (int i = 0; i < 30; i++) {
            x.make(0, false, 1500, 500);
        }
        for (int i = 0; i < 20; i++) {
            x.ream(0);
            x.put(i, i, 500);
            x.use(i, i, 50);
            x.use(i, i, 50);
        }
        return x;
    }

    /** A document of a year, and a ream with a sheet of another year. */
    private static Watermarkmill aged(int made, int used) {
        Watermarkmill x = new Watermarkmill();
        x.mould(0, 0, 100, 100, 100, 100);
        x.make(0, false, made, 3);
        x.ream(0);
        x.put(0, 0, 3);
        x.document(used, 0);
        return x;
    }

    private static void usedShare() {
        Edge.refuses("44 none was made", Check.ARITHMETIC, DatingEdgesTest::pair, x -> x.usedShare());
        Edge.answers("44 none was used", 0.0f, () -> aged(1500, 1500), x -> x.usedShare());
        Edge.answers("44 a third", 1.0f / 3.0f, () -> aged(1500, 1500), x -> x.use(0, 0, 1) == 1 ? x.usedShare() : -1f);
        Edge.answers("44 all", 1.0f, () -> aged(1500, 1500), x -> x.use(0, 0, 3) == 3 ? x.usedShare() : -1f);
        Edge.answers("44 the most that can be", 2000.0f / 15000.0f, DatingEdgesTest::heaps, x -> x.usedShare());
    }

    private static void meanAge() {
        Edge.refuses("45 no documents", Check.MISSING, Watermarkmill::new, x -> x.meanAge());
        Edge.refuses("45 none in documents", Check.MISSING, () -> aged(1500, 1500), x -> x.meanAge());
        Edge.answers("45 of the year", 0.0, () -> aged(1500, 1500), x -> x.use(0, 0, 1) == 1 ? x.meanAge() : -1.0);
        Edge.answers("45 the greatest age", 500.0, () -> aged(1400, 1900),
                x -> x.use(0, 0, 3) == 3 ? x.meanAge() : -1.0);
        Edge.answers("45 beyond what claims allow", 13.0, () -> aged(1500, 1513),
                x -> x.use(0, 0, 1) == 1 ? x.meanAge() : -1.0);
        Edge.answers("45 the most that can be", 0.0, DatingEdgesTest::heaps, x -> x.meanAge());
    }

    private static void isSound() {
        Edge.answers("46 without anything", true, Watermarkmill::new, x -> x.isSound());
        Edge.answers("46 with as much as can be", true, DatingEdgesTest::heaps, x -> x.isSound());
        Edge.answers("46 with a year for a date", true, DatingEdgesTest::dated, x -> x.isSound());
        Edge.answers("46 though nothing fits", true, DatingEdgesTest::torn, x -> x.isSound());
        Edge.answers("46 with a chain", true, DatingEdgesTest::chain, x -> x.date(19, 1400) == 0 && x.isSound());
        Edge.answers("46 with all wires broken and sheets of each year", true, () -> aged(1400, 1900), x -> {
            for (int wire = 0; wire < 8; wire++) {
                x.damage(0, wire, false, 1400);
                x.damage(0, wire, true, 1400);
            }
            return x.use(0, 0, 2) == 2 && x.isSound();
        });
    }
}
