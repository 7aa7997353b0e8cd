import java.util.Random;

/**
 * Dating by the words of the document alone, with no rule of how years follow from others: every year from 1400 to 1900
 * is tried for each document without a date, and for each such try it is seen whether years can be given to all stocks.
 * So two documents at most are free at a time, and the studies are small.
 */
final class AllYearsTriedTest {
    private static final int STUDIES = 60;
    private static final int FIRST = 1400;
    private static final int LAST = 1900;
    private static final int MOULDS = 2;
    private static final int STATES = 4;

    private final Random random;
    private final Watermarkmill x = new Watermarkmill();
    private final int documents;
    private final boolean[][][] isClaimed;
    private final int[] dates;
    private final int age;
    private final String study;

    private AllYearsTriedTest(int seed) {
        random = new Random(seed);
        study = "study " + seed + " ";
        documents = 3 + random.nextInt(3);
        isClaimed = new boolean[documents][MOULDS][STATES];
        dates = new int[documents];
        age = random.nextInt(4) == 0 ? 0 : random.nextInt(9);
        tell();
    }

    public static void main(String[] args) {
        int fitting = 0;
        for (int seed = 0; seed < STUDIES; seed++) {
            AllYearsTriedTest test = new AllYearsTriedTest(seed);
            fitting += test.compare() ? 1 : 0;
        }
        Check.due("some studies fit, and some do not", fitting > STUDIES / 4 && fitting < STUDIES * 3 / 4, true);
        Check.end();
    }

    private void tell() {
        for (int mould = 0; mould < MOULDS; mould++) {
            x.mould(0, 0, 100, 100, 100, 100);
        }
        x.setAge(age);
        int start = random.nextInt(3) == 0 ? FIRST : random.nextInt(2) == 0 ? LAST - 15 : 1600;
        for (int document = 0; document < documents; document++) {
            x.document(1500, 0);
            for (int claim = 0; claim < 2; claim++) {
                int mould = random.nextInt(MOULDS);
                int state = random.nextInt(STATES);
                if (!isClaimed[document][mould][state]) {
                    isClaimed[document][mould][state] = true;
                    x.claim(document, mould, state);
                }
            }
            dates[document] = start + random.nextInt(16);
            x.date(document, dates[document]);
        }
        if (random.nextInt(3) != 0) {
            int free = random.nextInt(documents);
            dates[free] = 0;
            x.date(free, 0);
        }
    }

    private boolean compare() {
        boolean[][] can = tried(-1);
        boolean isFitting = count(can[0]) > 0;
        Check.due(study + "38 fits", x.fits(), isFitting);
        if (isFitting) {
            compareYears(can);
            compareGrounds(can);
        } else {
            Check.thrown(study + "43 none", Check.UNSUPPORTED, x::years);
        }
        compareCulprit(isFitting);
        compareForgeries();
        return isFitting;
    }

    private void compareYears(boolean[][] can) {
        long years = 0;
        for (int document = 0; document < documents; document++) {
            Check.due(study + "39 first", x.year(document, false), bound(can[document], false));
            Check.due(study + "39 last", x.year(document, true), bound(can[document], true));
            years += count(can[document]);
        }
        Check.due(study + "43 years", x.years(), years);
    }

    private void compareGrounds(boolean[][] can) {
        boolean[][][] without = new boolean[documents][][];
        for (int aside = 0; aside < documents; aside++) {
            without[aside] = tried(aside);
        }
        for (int d = 0; d < documents; d++) {
            int document = d;
            for (boolean isLast : new boolean[] {false, true}) {
                int ground = -1;
                for (int aside = documents - 1; aside >= 0; aside--) {
                    boolean isMoved = bound(without[aside][d], isLast) != bound(can[d], isLast);
                    ground = aside != d && isMoved ? aside : ground;
                }
                Object want = ground >= 0 ? ground : Check.MISSING.getName();
                Check.due(study + "40 ground", Check.outcome(() -> x.ground(document, isLast)), want);
            }
        }
    }

    private void compareCulprit(boolean isFitting) {
        int culprit = -1;
        for (int aside = documents - 1; aside >= 0; aside--) {
            culprit = dates[aside] != 0 && count(tried(aside)[0]) > 0 ? aside : culprit;
        }
        Object want = isFitting ? Check.UNSUPPORTED.getName() : culprit < 0 ? Check.MISSING.getName() : (Object) culprit;
        Check.due(study + "41 culprit", Check.outcome(x::culprit), want);
    }

    private void compareForgeries() {
        for (int d = 0; d < documents; d++) {
            int document = d;
            boolean[] can = tried(d)[d];
            for (int pretended = FIRST; pretended <= LAST; pretended += 1 + random.nextInt(80)) {
                compareForgery(document, pretended, can);
            }
            if (count(can) > 0) {
                compareForgery(document, bound(can, false), can);
                compareForgery(document, Math.max(FIRST, bound(can, false) - 1), can);
                compareForgery(document, bound(can, true), can);
                compareForgery(document, Math.min(LAST, bound(can, true) + 1), can);
            }
        }
    }

    private void compareForgery(int document, int pretended, boolean[] can) {
        boolean isSomeNotLater = false;
        boolean isSomeNotEarlier = false;
        for (int year = FIRST; year <= LAST; year++) {
            isSomeNotLater |= can[year - FIRST] && year <= pretended;
            isSomeNotEarlier |= can[year - FIRST] && year >= pretended;
        }
        Object want = count(can) == 0 ? Check.UNSUPPORTED.getName()
                : !isSomeNotLater ? 'l' : !isSomeNotEarlier ? 'e' : (Object) '-';
        Check.due(study + "42 forged", Check.outcome(() -> x.forged(document, pretended)), want);
    }

    private static int count(boolean[] can) {
        int count = 0;
        for (boolean is : can) {
            count += is ? 1 : 0;
        }
        return count;
    }

    private static int bound(boolean[] can, boolean isLast) {
        int bound = 0;
        for (int year = FIRST; year <= LAST; year++) {
            if (can[year - FIRST] && (isLast || bound == 0)) {
                bound = year;
            }
        }
        return bound;
    }

    /** Of each document the years that it has in some try that fits, as if the document 'aside' had no date. */
    private boolean[][] tried(int aside) {
        int[] years = dates.clone();
        if (aside >= 0) {
            years[aside] = 0;
        }
        boolean[][] can = new boolean[documents][LAST - FIRST + 1];
        tryFrom(0, years, can);
        return can;
    }

    private void tryFrom(int document, int[] years, boolean[][] can) {
        if (document == documents) {
            if (isPossible(years)) {
                for (int d = 0; d < documents; d++) {
                    can[d][years[d] - FIRST] = true;
                }
            }
        } else if (years[document] != 0) {
            tryFrom(document + 1, years, can);
        } else {
            for (int year = FIRST; year <= LAST; year++) {
                years[document] = year;
                tryFrom(document + 1, years, can);
            }
            years[document] = 0;
        }
    }

    /**
     * With a year for each document, each stock is made as early as it can be: within the age, and not ahead of any
     * earlier state of its mould. If one is then later than its document, there are no such years.
     */
    private boolean isPossible(int[] years) {
        for (int mould = 0; mould < MOULDS; mould++) {
            int ahead = FIRST;
            for (int state = 0; state < STATES; state++) {
                int latest = ahead;
                for (int document = 0; document < documents; document++) {
                    if (isClaimed[document][mould][state]) {
                        int made = Math.max(ahead, years[document] - age);
                        if (made > years[document]) {
                            return false;
                        }
                        latest = Math.max(latest, made);
                    }
                }
                ahead = latest;
            }
        }
        return true;
    }
}
