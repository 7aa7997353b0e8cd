/** The edges of the promises 1 to 10: what is too small, too large, full, or refused, and what is just taken. */
final class MouldEdgesTest {
    public static void main(String[] args) {
        newObject();
        mould();
        copy();
        copyIsNew();
        twin();
        damage();
        damageIsFull();
        damageAgainstYears();
        retire();
        sell();
        sellAgainstYears();
        owner();
        state();
        wire();
        Check.end();
    }

    private static Watermarkmill two() {
        Watermarkmill x = new Watermarkmill();
        x.mould(0, 0, 100, 100, 100, 100);
        x.mould(0, 0, 100, 100, 100, 100);
        return x;
    }

    /** Moulds 0, 1 and 2 of the mills 0, 1 and 2. */
    private static Watermarkmill three() {
        Watermarkmill x = new Watermarkmill();
        x.mould(0, 7, 100, 200, 300, 400);
        x.mould(1, 7, 100, 200, 300, 400);
        x.mould(2, 8, 100, 200, 300, 400);
        return x;
    }

    /** Three moulds, 0 with a bent wire 3 and a broken wire 4 since 1500; 0 and 1 are twins. */
    private static Watermarkmill worn() {
        Watermarkmill x = three();
        x.damage(0, 3, false, 1500);
        x.damage(0, 4, true, 1500);
        x.twin(0, 1);
        return x;
    }

    /** Three moulds, 0 used in 1500, 1 retired in 1500, 2 sold to the mill 3 in 1500. */
    private static Watermarkmill lived() {
        Watermarkmill x = three();
        x.make(0, false, 1500, 1);
        x.retire(1, 1500);
        x.sell(2, 3, 1500);
        return x;
    }

    private static Watermarkmill full() {
        Watermarkmill x = new Watermarkmill();
        for (int i = 0; i < 12; i++) {
            x.mould(i % 5, i, 100, 200, 300, 400);
        }
        return x;
    }

    private static Watermarkmill ream() {
        Watermarkmill x = new Watermarkmill();
        x.ream(0);
        return x;
    }

    private static void newObject() {
        Edge.Scene empty = Watermarkmill::new;
        Edge.answers("1 the first mould", 0, empty, x -> x.mould(0, 0, 100, 100, 100, 100));
        Edge.answers("1 the first ream", 0, empty, x -> x.ream(0));
        Edge.answers("1 the first document", 0, empty, x -> x.document(1500, 0));
        Edge.answers("1 the first lot", 0, MouldEdgesTest::three, x -> x.make(0, false, 1500, 1));
        Edge.answers("1 the tolerance at first", 3, empty, x -> x.setTolerance(0));
        Edge.answers("1 the age at first", 12, empty, x -> x.setAge(0));
        Edge.answers("1 no entry is of another one", 399, empty, x -> x.entry(3, 99));
        Edge.answers("1 a document has no claim", 1, MouldEdgesTest::three, x -> x.claim(x.document(1500, 0), 0, 0));
        Edge.answers("1 a document has no date", 0, empty, x -> x.date(x.document(1500, 0), 1500));
        Edge.refuses("1 no mould", Check.BOUNDS, empty, x -> x.copy(0, 0));
        Edge.refuses("1 no lot", Check.BOUNDS, MouldEdgesTest::ream, x -> x.put(0, 0, 1));
        Edge.refuses("1 no ream", Check.BOUNDS, empty, x -> x.tariff(0));
        Edge.refuses("1 no document", Check.BOUNDS, empty, x -> x.run(0, 0));
        Edge.refuses("1 no image", Check.BOUNDS, empty, x -> x.compare(0, 0));
        Edge.refuses("1 no merging", Check.MISSING, empty, x -> x.unmerge());
        Edge.refuses("1 no culprit, as all fits", Check.UNSUPPORTED, empty, x -> x.culprit());
    }

    private static void mould() {
        Edge.Scene empty = Watermarkmill::new;
        Edge.takes("2 the mill", Check.ARGUMENT, 0, 4, empty, (x, n) -> x.mould(n, 0, 100, 100, 100, 100));
        Edge.takes("2 the mark", Check.ARGUMENT, 0, 99, empty, (x, n) -> x.mould(0, n, 100, 100, 100, 100));
        Edge.takes("2 the first distance", Check.ARGUMENT, 100, 400, empty, (x, n) -> x.mould(0, 0, n, 100, 100, 100));
        Edge.takes("2 the second one", Check.ARGUMENT, 100, 400, empty, (x, n) -> x.mould(0, 0, 100, n, 100, 100));
        Edge.takes("2 the third one", Check.ARGUMENT, 100, 400, empty, (x, n) -> x.mould(0, 0, 100, 100, n, 100));
        Edge.takes("2 the fourth one", Check.ARGUMENT, 100, 400, empty, (x, n) -> x.mould(0, 0, 100, 100, 100, n));
        Edge.Scene full = MouldEdgesTest::full;
        Edge.answers("2 the twelfth is 11", 0, full, x -> x.state(11, 1900));
        Edge.refuses("2 a thirteenth", Check.STATE, full, x -> x.mould(0, 0, 100, 100, 100, 100));
        Edge.refuses("2 the mill ahead of room", Check.ARGUMENT, full, x -> x.mould(5, 0, 100, 100, 100, 100));
        Edge.refuses("2 the mark ahead of room", Check.ARGUMENT, full, x -> x.mould(0, 100, 100, 100, 100, 100));
        Edge.refuses("2 a distance ahead of room", Check.ARGUMENT, full, x -> x.mould(0, 0, 100, 100, 100, 99));
        Edge.answers("2 whole at first", '-', MouldEdgesTest::three, x -> x.wire(2, 0, 7));
        Edge.answers("2 of the mill from the first year on", 2, MouldEdgesTest::three, x -> x.owner(2, 1400));
    }

    private static void copy() {
        Edge.Scene three = MouldEdgesTest::three;
        Edge.takes("3 the mould", Check.BOUNDS, 0, 2, three, (x, n) -> x.copy(n, 0));
        Edge.takes("3 the mill", Check.ARGUMENT, 0, 4, three, (x, n) -> x.copy(0, n));
        Edge.answers("3 the next number", 3, three, x -> x.copy(0, 0));
        Edge.answers("3 the twelfth", 11, three, x -> {
            for (int i = 3; i < 11; i++) {
                x.copy(i - 1, 0);
            }
            return x.copy(10, 0);
        });
        Edge.Scene full = MouldEdgesTest::full;
        Edge.refuses("3 a thirteenth", Check.STATE, full, x -> x.copy(11, 0));
        Edge.refuses("3 the mould ahead of the mill", Check.BOUNDS, three, x -> x.copy(3, 5));
        Edge.refuses("3 the mould ahead of room", Check.BOUNDS, full, x -> x.copy(12, 0));
        Edge.refuses("3 the mill ahead of room", Check.ARGUMENT, full, x -> x.copy(0, -1));
    }

    private static void copyIsNew() {
        Edge.answers("3 no damage", 0, MouldEdgesTest::worn, x -> x.state(x.copy(0, 0), 1900));
        Edge.answers("3 not a twin", true, MouldEdgesTest::worn, x -> x.twin(x.copy(0, 0), 2));
        Edge.answers("3 not used", 1, MouldEdgesTest::lived, x -> x.retire(x.copy(0, 0), 1400));
        Edge.answers("3 not retired", 1, MouldEdgesTest::lived, x -> x.make(x.copy(1, 0), false, 1900, 1));
        Edge.answers("3 not sold", 4, MouldEdgesTest::lived, x -> x.owner(x.copy(2, 4), 1900));
        Edge.answers("3 damage to it is not to the other one", 0, MouldEdgesTest::three, x -> {
            x.damage(x.copy(0, 0), 0, true, 1500);
            return x.state(0, 1900);
        });
    }

    private static void twin() {
        Edge.Scene three = MouldEdgesTest::three;
        Edge.Scene worn = MouldEdgesTest::worn;
        Edge.takes("4 the mould", Check.BOUNDS, 0, 1, MouldEdgesTest::two, (x, n) -> x.twin(n, n == 0 ? 1 : 0));
        Edge.takes("4 the other one", Check.BOUNDS, 0, 1, MouldEdgesTest::two, (x, n) -> x.twin(n == 0 ? 1 : 0, n));
        Edge.refuses("4 the same, the first one", Check.ARGUMENT, three, x -> x.twin(0, 0));
        Edge.refuses("4 the same, the last one", Check.ARGUMENT, three, x -> x.twin(2, 2));
        Edge.answers("4 they were not", true, three, x -> x.twin(1, 2));
        Edge.answers("4 they were", false, worn, x -> x.twin(0, 1));
        Edge.answers("4 they were, the other way", false, worn, x -> x.twin(1, 0));
        Edge.refuses("4 the one has another", Check.UNSUPPORTED, worn, x -> x.twin(0, 2));
        Edge.refuses("4 the other has another", Check.UNSUPPORTED, worn, x -> x.twin(2, 0));
        Edge.refuses("4 the twin has another", Check.UNSUPPORTED, worn, x -> x.twin(1, 2));
        Edge.refuses("4 both have others", Check.UNSUPPORTED, () -> {
            Watermarkmill x = full();
            x.twin(0, 1);
            x.twin(2, 3);
            return x;
        }, x -> x.twin(1, 3));
        Edge.refuses("4 the mould ahead of the same", Check.BOUNDS, three, x -> x.twin(3, 3));
        Edge.refuses("4 the mould ahead of another twin", Check.BOUNDS, worn, x -> x.twin(0, 3));
        Edge.refuses("4 the same ahead of another twin", Check.ARGUMENT, worn, x -> x.twin(1, 1));
    }

    private static void damage() {
        Edge.Scene three = MouldEdgesTest::three;
        Edge.Scene worn = MouldEdgesTest::worn;
        Edge.takes("5 the mould", Check.BOUNDS, 0, 2, three, (x, n) -> x.damage(n, 0, true, 1500));
        Edge.takes("5 the wire", Check.ARGUMENT, 0, 7, three, (x, n) -> x.damage(0, n, false, 1500));
        Edge.takes("5 the year", Check.ARGUMENT, 1400, 1900, three, (x, n) -> x.damage(0, 0, true, n));
        Edge.refuses("5 as damaged already, bent", Check.UNSUPPORTED, worn, x -> x.damage(0, 3, false, 1500));
        Edge.refuses("5 as damaged already, broken", Check.UNSUPPORTED, worn, x -> x.damage(0, 4, true, 1500));
        Edge.refuses("5 broken, so not to be bent", Check.UNSUPPORTED, worn, x -> x.damage(0, 4, false, 1500));
        Edge.refuses("5 nor later", Check.UNSUPPORTED, worn, x -> x.damage(0, 4, false, 1900));
        Edge.answers("5 bent, then broken in the year", 3, worn, x -> x.damage(0, 3, true, 1500));
        Edge.answers("5 bent, then broken later", 3, worn, x -> x.damage(0, 3, true, 1900));
        Edge.answers("5 another mould is apart", 1, worn, x -> x.damage(1, 3, false, 1400));
        Edge.refuses("5 the mould ahead of the wire", Check.BOUNDS, three, x -> x.damage(3, 8, true, 1500));
        Edge.refuses("5 the mould ahead of the year", Check.BOUNDS, three, x -> x.damage(-1, 0, true, 1399));
        Edge.refuses("5 the year ahead of damage", Check.ARGUMENT, worn, x -> x.damage(0, 4, true, 1901));
        Edge.refuses("5 the wire ahead of later damage", Check.ARGUMENT, worn, x -> x.damage(0, 8, true, 1499));
        Edge.refuses("5 the year ahead of retirement", Check.ARGUMENT, MouldEdgesTest::lived,
                x -> x.damage(1, 0, true, 1901));
    }

    /** A mould, the wires 0 to 7 all bent and then all broken in 1500. */
    private static Watermarkmill wrecked() {
        Watermarkmill x = three();
        for (int i = 0; i < 16; i++) {
            x.damage(0, i % 8, i >= 8, 1500);
        }
        return x;
    }

    private static void damageIsFull() {
        Edge.Scene wrecked = MouldEdgesTest::wrecked;
        Edge.answers("5 sixteen states behind the first", 16, wrecked, x -> x.state(0, 1500));
        Edge.answers("5 all whole ahead of that", 0, wrecked, x -> x.state(0, 1499));
        Edge.answers("5 the last wire bent", 'b', wrecked, x -> x.wire(0, 15, 7));
        Edge.answers("5 the last wire broken", 'x', wrecked, x -> x.wire(0, 16, 7));
        Edge.refuses("5 no wire is left to bend", Check.UNSUPPORTED, wrecked, x -> x.damage(0, 0, false, 1900));
        Edge.refuses("5 no wire is left to break", Check.UNSUPPORTED, wrecked, x -> x.damage(0, 7, true, 1900));
        Edge.answers("5 it is retired with seventeen states", 17, wrecked, x -> x.retire(0, 1500));
    }

    private static void damageAgainstYears() {
        Edge.Scene worn = MouldEdgesTest::worn;
        Edge.Scene lived = MouldEdgesTest::lived;
        Edge.refuses("5 damaged in a later year", Check.UNSUPPORTED, worn, x -> x.damage(0, 0, true, 1499));
        Edge.answers("5 damaged in the year", 3, worn, x -> x.damage(0, 0, true, 1500));
        Edge.refuses("5 used in a later year", Check.UNSUPPORTED, lived, x -> x.damage(0, 0, true, 1499));
        Edge.answers("5 used in the year", 1, lived, x -> x.damage(0, 0, true, 1500));
        Edge.refuses("5 retired in an earlier year", Check.UNSUPPORTED, lived, x -> x.damage(1, 0, true, 1501));
        Edge.refuses("5 retired in a later year", Check.UNSUPPORTED, lived, x -> x.damage(1, 0, true, 1499));
        Edge.answers("5 retired in the year", 1, lived, x -> x.damage(1, 0, true, 1500));
        Edge.answers("5 a sale in a later year is no matter", 1, lived, x -> x.damage(2, 0, true, 1400));
        Edge.answers("5 a refused damage is none", 1, lived, x -> {
            Check.outcome(() -> x.damage(0, 0, true, 1499));
            return x.damage(0, 0, true, 1500);
        });
    }

    private static void retire() {
        Edge.Scene three = MouldEdgesTest::three;
        Edge.Scene worn = MouldEdgesTest::worn;
        Edge.Scene lived = MouldEdgesTest::lived;
        Edge.takes("6 the mould", Check.BOUNDS, 0, 2, three, (x, n) -> x.retire(n, 1500));
        Edge.takes("6 the year", Check.ARGUMENT, 1400, 1900, three, (x, n) -> x.retire(0, n));
        Edge.answers("6 one state without damage", 1, three, x -> x.retire(0, 1500));
        Edge.answers("6 a state more for each damage", 3, worn, x -> x.retire(0, 1500));
        Edge.refuses("6 retired, an earlier year", Check.UNSUPPORTED, lived, x -> x.retire(1, 1499));
        Edge.refuses("6 retired, the same year", Check.UNSUPPORTED, lived, x -> x.retire(1, 1500));
        Edge.refuses("6 retired, a later year", Check.UNSUPPORTED, lived, x -> x.retire(1, 1501));
        Edge.refuses("6 damaged in a later year", Check.UNSUPPORTED, worn, x -> x.retire(0, 1499));
        Edge.refuses("6 used in a later year", Check.UNSUPPORTED, lived, x -> x.retire(0, 1499));
        Edge.answers("6 used in the year", 1, lived, x -> x.retire(0, 1500));
        Edge.answers("6 the twin is not retired", 1, worn, x -> {
            x.retire(0, 1500);
            return x.retire(1, 1400);
        });
        Edge.refuses("6 the mould ahead of the year", Check.BOUNDS, three, x -> x.retire(3, 1901));
        Edge.refuses("6 the year ahead of retirement", Check.ARGUMENT, lived, x -> x.retire(1, 1901));
        Edge.refuses("6 the year ahead of later use", Check.ARGUMENT, lived, x -> x.retire(0, 1399));
    }

    private static void sell() {
        Edge.Scene three = MouldEdgesTest::three;
        Edge.Scene lived = MouldEdgesTest::lived;
        Edge.takes("7 the mould", Check.BOUNDS, 0, 2, three, (x, n) -> x.sell(n, 4, 1500));
        Edge.takesFrom("7 the mill", Check.ARGUMENT, 0, () -> {
            Watermarkmill x = three();
            x.sell(0, 1, 1400);
            return x;
        }, (x, n) -> x.sell(0, n, 1500));
        Edge.takesTo("7 the mill", Check.ARGUMENT, 4, three, (x, n) -> x.sell(0, n, 1500));
        Edge.takes("7 the year", Check.ARGUMENT, 1400, 1900, three, (x, n) -> x.sell(0, 1, n));
        Edge.refuses("7 that is the owner, unsold", Check.UNSUPPORTED, three, x -> x.sell(2, 2, 1500));
        Edge.refuses("7 that is the owner by a sale", Check.UNSUPPORTED, lived, x -> x.sell(2, 3, 1500));
        Edge.refuses("7 that is the owner still", Check.UNSUPPORTED, lived, x -> x.sell(2, 3, 1900));
        Edge.refuses("7 sold in a later year", Check.UNSUPPORTED, lived, x -> x.sell(2, 4, 1499));
        Edge.answers("7 sold in the year", 3, lived, x -> x.sell(2, 4, 1500));
        Edge.answers("7 back to the first one in the year", 3, lived, x -> x.sell(2, 2, 1500));
        Edge.refuses("7 the mould ahead of the mill", Check.BOUNDS, three, x -> x.sell(3, 5, 1500));
        Edge.refuses("7 the mould ahead of the year", Check.BOUNDS, three, x -> x.sell(-1, 0, 1399));
        Edge.refuses("7 the mill ahead of a later sale", Check.ARGUMENT, lived, x -> x.sell(2, 5, 1499));
        Edge.refuses("7 the year ahead of the owner", Check.ARGUMENT, lived, x -> x.sell(2, 3, 1901));
        Edge.refuses("7 the year ahead of a later sale", Check.ARGUMENT, lived, x -> x.sell(2, 4, 1399));
    }

    private static void sellAgainstYears() {
        Edge.answers("7 a mould used later", 0, MouldEdgesTest::lived, x -> x.sell(0, 1, 1499));
        Edge.answers("7 a mould damaged later", 0, MouldEdgesTest::worn, x -> x.sell(0, 1, 1499));
        Edge.answers("7 a mould retired earlier", 1, MouldEdgesTest::lived, x -> x.sell(1, 0, 1501));
        Edge.answers("7 a sale for each call that is promised", "1 1 0 1", MouldEdgesTest::three, x -> {
            for (int i = 0; i < 499; i++) {
                x.sell(0, 1 - i % 2, 1400 + i);
            }
            return x.owner(0, 1900) + " " + x.owner(0, 1898) + " " + x.owner(0, 1897) + " " + x.owner(0, 1400);
        });
    }

    private static void owner() {
        Edge.Scene lived = MouldEdgesTest::lived;
        Edge.takes("8 the mould", Check.BOUNDS, 0, 2, lived, (x, n) -> x.owner(n, 1500));
        Edge.takes("8 the year", Check.ARGUMENT, 1400, 1900, lived, (x, n) -> x.owner(0, n));
        Edge.refuses("8 the mould ahead of the year", Check.BOUNDS, lived, x -> x.owner(3, 1901));
        Edge.answers("8 the year ahead of the sale", 2, lived, x -> x.owner(2, 1499));
        Edge.answers("8 the year of the sale", 3, lived, x -> x.owner(2, 1500));
        Edge.answers("8 of several in the year the last one", 0, lived, x -> {
            x.sell(2, 4, 1500);
            x.sell(2, 0, 1500);
            return x.owner(2, 1500);
        });
        Edge.answers("8 sold in the first year", 1, MouldEdgesTest::three, x -> {
            x.sell(0, 1, 1400);
            return x.owner(0, 1400);
        });
        Edge.answers("8 sold in the last year", 10, MouldEdgesTest::three, x -> {
            x.sell(0, 1, 1900);
            return 10 * x.owner(0, 1900) + x.owner(0, 1899);
        });
    }

    private static void state() {
        Edge.Scene worn = MouldEdgesTest::worn;
        Edge.takes("9 the mould", Check.BOUNDS, 0, 2, worn, (x, n) -> x.state(n, 1500));
        Edge.takes("9 the year", Check.ARGUMENT, 1400, 1900, worn, (x, n) -> x.state(0, n));
        Edge.refuses("9 the mould ahead of the year", Check.BOUNDS, worn, x -> x.state(3, 1399));
        Edge.answers("9 the first year", 0, worn, x -> x.state(0, 1400));
        Edge.answers("9 the year ahead of the damage", 0, worn, x -> x.state(0, 1499));
        Edge.answers("9 behind all damage of the year", 2, worn, x -> x.state(0, 1500));
        Edge.answers("9 damage in the first year", 1, MouldEdgesTest::three, x -> {
            x.damage(0, 0, true, 1400);
            return x.state(0, 1400);
        });
        Edge.answers("9 damage in the last year", 10, MouldEdgesTest::three, x -> {
            x.damage(0, 0, true, 1900);
            return 10 * x.state(0, 1900) + x.state(0, 1899);
        });
    }

    private static void wire() {
        Edge.Scene worn = MouldEdgesTest::worn;
        Edge.takes("10 the mould", Check.BOUNDS, 0, 2, worn, (x, n) -> x.wire(n, 0, 0));
        Edge.takes("10 the wire", Check.ARGUMENT, 0, 7, worn, (x, n) -> x.wire(0, 0, n));
        Edge.takes("10 the state", Check.MISSING, 0, 2, worn, (x, n) -> x.wire(0, n, 0));
        Edge.takes("10 the only state", Check.MISSING, 0, 0, worn, (x, n) -> x.wire(2, n, 0));
        Edge.takes("10 the last state of all", Check.MISSING, 0, 16, MouldEdgesTest::wrecked,
                (x, n) -> x.wire(0, n, 0));
        Edge.answers("10 bent", 'b', worn, x -> x.wire(0, 1, 3));
        Edge.answers("10 still bent", 'b', worn, x -> x.wire(0, 2, 3));
        Edge.answers("10 not yet broken", '-', worn, x -> x.wire(0, 1, 4));
        Edge.answers("10 broken", 'x', worn, x -> x.wire(0, 2, 4));
        Edge.refuses("10 the mould ahead of the wire", Check.BOUNDS, worn, x -> x.wire(3, 0, 8));
        Edge.refuses("10 the mould ahead of the state", Check.BOUNDS, worn, x -> x.wire(-1, -1, 0));
        Edge.refuses("10 the wire ahead of the state", Check.ARGUMENT, worn, x -> x.wire(0, 3, -1));
    }
}
