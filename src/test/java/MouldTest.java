/** Promises 1 to 10: a new object, and moulds. */
final class MouldTest {
    public static void main(String[] args) {
        newObject();
        mould();
        copy();
        twin();
        damage();
        damageAgainstUse();
        retire();
        sell();
        owner();
        state();
        wire();
        Check.end();
    }

    private static Watermarkmill withMoulds(int count) {
        Watermarkmill x = new Watermarkmill();
        for (int i = 0; i < count; i++) {
            x.mould(i % 5, i, 200, 210, 220, 230);
        }
        return x;
    }

    private static void newObject() {
        Watermarkmill x = new Watermarkmill();
        Check.thrown("1 no mould", Check.BOUNDS, () -> x.owner(0, 1500));
        Check.thrown("1 no lot", Check.BOUNDS, () -> x.put(x.ream(0), 0, 1));
        Check.thrown("1 no ream", Check.BOUNDS, () -> x.tariff(1));
        Check.thrown("1 no document", Check.BOUNDS, () -> x.wash(0));
        Check.thrown("1 no image", Check.BOUNDS, () -> x.distance(0, 0));
        Check.due("1 no group", x.groups(), 0);
        Check.due("1 no clash", x.clashes(), 0);
        Check.due("1 no claim", x.fits(), true);
        Check.due("1 no years", x.years(), 0L);
        Check.due("1 sound", x.isSound(), true);
    }

    private static void mould() {
        Watermarkmill x = new Watermarkmill();
        int[][] wrong = {
            {-1, 0, 100, 100, 100, 100}, {5, 0, 100, 100, 100, 100}, {0, -1, 100, 100, 100, 100},
            {0, 100, 100, 100, 100, 100}, {0, 0, 99, 100, 100, 100}, {0, 0, 100, 99, 100, 100},
            {0, 0, 100, 100, 99, 100}, {0, 0, 100, 100, 100, 99}, {0, 0, 401, 100, 100, 100},
            {0, 0, 100, 401, 100, 100}, {0, 0, 100, 100, 401, 100}, {0, 0, 100, 100, 100, 401},
            {Integer.MIN_VALUE, 0, 100, 100, 100, 100}, {0, Integer.MAX_VALUE, 100, 100, 100, 100},
        };
        for (int[] w : wrong) {
            Check.thrown("2 out of range", Check.ARGUMENT, () -> x.mould(w[0], w[1], w[2], w[3], w[4], w[5]));
        }
        Check.due("2 lowest", x.mould(0, 0, 100, 100, 100, 100), 0);
        Check.due("2 highest", x.mould(4, 99, 400, 400, 400, 400), 1);
        Check.due("2 its mill", x.owner(1, 1400), 4);
        for (int i = 2; i < 12; i++) {
            Check.due("2 numbers", x.mould(0, 0, 100, 100, 100, 100), i);
        }
        Check.thrown("2 thirteenth", Check.STATE, () -> x.mould(0, 0, 100, 100, 100, 100));
        Check.thrown("2 range ahead of room", Check.ARGUMENT, () -> x.mould(5, 0, 100, 100, 100, 100));
        Check.thrown("2 still twelve", Check.BOUNDS, () -> x.state(12, 1500));
    }

    private static void copy() {
        Watermarkmill x = withMoulds(11);
        x.damage(3, 0, true, 1500);
        Check.thrown("3 no mould", Check.BOUNDS, () -> x.copy(11, 9));
        Check.thrown("3 negative", Check.BOUNDS, () -> x.copy(-1, 0));
        Check.thrown("3 mill", Check.ARGUMENT, () -> x.copy(3, 5));
        Check.thrown("3 mill below", Check.ARGUMENT, () -> x.copy(3, -1));
        Check.due("3 number", x.copy(3, 1), 11);
        Check.due("3 for its mill", x.owner(11, 1900), 1);
        Check.due("3 no damage", x.state(11, 1900), 0);
        Check.due("3 whole", x.wire(11, 0, 0), '-');
        Check.thrown("3 full", Check.STATE, () -> x.copy(3, 0));
        Check.thrown("3 mill ahead of full", Check.ARGUMENT, () -> x.copy(3, 5));
        x.make(3, false, 1499 + 1, 1);
        x.make(11, false, 1450, 1);
        Check.due("3 has the mark and distances", sameImage(x), 's');
    }

    private static char sameImage(Watermarkmill x) {
        x.ream(0);
        x.put(0, 0, 1);
        x.put(0, 1, 1);
        x.document(1600, 0);
        x.use(0, 0, 2);
        x.image(0, 0, 0, 254);
        x.image(0, 1, 0, 254);
        x.setTolerance(0);
        return x.compare(0, 1);
    }

    private static void twin() {
        Watermarkmill x = withMoulds(4);
        Check.thrown("4 no mould", Check.BOUNDS, () -> x.twin(0, 4));
        Check.thrown("4 no mould, first", Check.BOUNDS, () -> x.twin(4, 4));
        Check.thrown("4 negative", Check.BOUNDS, () -> x.twin(-1, 0));
        Check.thrown("4 the same", Check.ARGUMENT, () -> x.twin(2, 2));
        Check.due("4 new", x.twin(0, 1), true);
        Check.due("4 again", x.twin(0, 1), false);
        Check.due("4 the other way", x.twin(1, 0), false);
        Check.thrown("4 first has another", Check.UNSUPPORTED, () -> x.twin(0, 2));
        Check.thrown("4 second has another", Check.UNSUPPORTED, () -> x.twin(2, 1));
        Check.thrown("4 same ahead of another", Check.ARGUMENT, () -> x.twin(0, 0));
        Check.due("4 the others are free", x.twin(3, 2), true);
        Check.thrown("4 both have another", Check.UNSUPPORTED, () -> x.twin(3, 0));
    }

    private static void damage() {
        Watermarkmill x = withMoulds(2);
        Check.thrown("5 no mould", Check.BOUNDS, () -> x.damage(2, 9, true, 0));
        Check.thrown("5 wire", Check.ARGUMENT, () -> x.damage(0, 8, true, 1500));
        Check.thrown("5 wire below", Check.ARGUMENT, () -> x.damage(0, -1, true, 1500));
        Check.thrown("5 year", Check.ARGUMENT, () -> x.damage(0, 0, true, 1901));
        Check.thrown("5 year below", Check.ARGUMENT, () -> x.damage(0, 0, true, 1399));
        Check.due("5 bent", x.damage(0, 3, false, 1500), 1);
        Check.thrown("5 bent again", Check.UNSUPPORTED, () -> x.damage(0, 3, false, 1501));
        Check.due("5 broken later", x.damage(0, 3, true, 1500), 2);
        Check.thrown("5 broken again", Check.UNSUPPORTED, () -> x.damage(0, 3, true, 1501));
        Check.thrown("5 bent when broken", Check.UNSUPPORTED, () -> x.damage(0, 3, false, 1501));
        Check.due("5 broken at once", x.damage(0, 4, true, 1510), 3);
        Check.thrown("5 years go back", Check.UNSUPPORTED, () -> x.damage(0, 5, true, 1509));
        Check.due("5 states unchanged", x.state(0, 1900), 3);
        for (int wire = 0; wire < 8; wire++) {
            Check.due("5 all bent", x.damage(1, wire, false, 1600), wire + 1);
        }
        for (int wire = 7; wire >= 0; wire--) {
            Check.due("5 all broken", x.damage(1, wire, true, 1900), 16 - wire);
        }
    }

    private static void damageAgainstUse() {
        Watermarkmill x = withMoulds(3);
        x.twin(0, 1);
        x.make(0, true, 1500, 1);
        Check.thrown("5 used later", Check.UNSUPPORTED, () -> x.damage(0, 0, true, 1499));
        Check.thrown("5 used later by turns", Check.UNSUPPORTED, () -> x.damage(1, 0, true, 1499));
        Check.due("5 used in the year", x.damage(0, 0, true, 1500), 1);
        x.retire(2, 1500);
        Check.thrown("5 retired earlier", Check.UNSUPPORTED, () -> x.damage(2, 0, true, 1501));
        Check.thrown("5 retired later", Check.UNSUPPORTED, () -> x.damage(2, 0, true, 1499));
        Check.due("5 retired in the year", x.damage(2, 0, true, 1500), 1);
        Check.thrown("5 range ahead of retired", Check.ARGUMENT, () -> x.damage(2, 8, true, 1501));
    }

    private static void retire() {
        Watermarkmill x = withMoulds(4);
        Check.thrown("6 no mould", Check.BOUNDS, () -> x.retire(4, 0));
        Check.thrown("6 year", Check.ARGUMENT, () -> x.retire(0, 1399));
        Check.thrown("6 year above", Check.ARGUMENT, () -> x.retire(0, 1901));
        x.damage(0, 0, true, 1500);
        Check.thrown("6 damaged later", Check.UNSUPPORTED, () -> x.retire(0, 1499));
        Check.due("6 states", x.retire(0, 1500), 2);
        Check.thrown("6 again", Check.UNSUPPORTED, () -> x.retire(0, 1500));
        Check.thrown("6 again later", Check.UNSUPPORTED, () -> x.retire(0, 1501));
        x.make(1, false, 1500, 1);
        Check.thrown("6 used later", Check.UNSUPPORTED, () -> x.retire(1, 1499));
        Check.due("6 used in the year", x.retire(1, 1500), 1);
        Check.due("6 unused", x.retire(2, 1400), 1);
        x.sell(3, 0, 1600);
        Check.due("6 a sale does not matter", x.retire(3, 1500), 1);
        Check.due("6 nor does it afterwards", x.sell(3, 1, 1700), 0);
    }

    private static void sell() {
        Watermarkmill x = withMoulds(2);
        Check.thrown("7 no mould", Check.BOUNDS, () -> x.sell(2, 9, 0));
        Check.thrown("7 mill", Check.ARGUMENT, () -> x.sell(0, 5, 1500));
        Check.thrown("7 year", Check.ARGUMENT, () -> x.sell(0, 1, 1901));
        Check.thrown("7 year below", Check.ARGUMENT, () -> x.sell(0, 1, 1399));
        Check.thrown("7 its own", Check.UNSUPPORTED, () -> x.sell(0, 0, 1500));
        Check.due("7 first", x.sell(0, 1, 1500), 0);
        Check.thrown("7 that is the owner", Check.UNSUPPORTED, () -> x.sell(0, 1, 1500));
        Check.due("7 in the same year", x.sell(0, 2, 1500), 1);
        Check.thrown("7 years go back", Check.UNSUPPORTED, () -> x.sell(0, 3, 1499));
        Check.thrown("7 back to the first one, earlier", Check.UNSUPPORTED, () -> x.sell(0, 0, 1499));
        Check.due("7 back to the first one", x.sell(0, 0, 1900), 2);
        Check.due("7 another mould is apart", x.sell(1, 0, 1400), 1);
    }

    private static void owner() {
        Watermarkmill x = withMoulds(1);
        x.sell(0, 1, 1500);
        x.sell(0, 2, 1500);
        x.sell(0, 3, 1510);
        Check.due("8 ahead of all", x.owner(0, 1499), 0);
        Check.due("8 the last one in the year", x.owner(0, 1500), 2);
        Check.due("8 between", x.owner(0, 1509), 2);
        Check.due("8 then", x.owner(0, 1510), 3);
        Check.due("8 last", x.owner(0, 1900), 3);
        Check.thrown("8 no mould", Check.BOUNDS, () -> x.owner(1, 0));
        Check.thrown("8 year", Check.ARGUMENT, () -> x.owner(0, 1399));
        Check.thrown("8 year above", Check.ARGUMENT, () -> x.owner(0, 1901));
    }

    private static void state() {
        Watermarkmill x = withMoulds(1);
        x.damage(0, 0, false, 1500);
        x.damage(0, 1, false, 1500);
        x.damage(0, 0, true, 1510);
        Check.due("9 at first", x.state(0, 1400), 0);
        Check.due("9 ahead", x.state(0, 1499), 0);
        Check.due("9 behind all of the year", x.state(0, 1500), 2);
        Check.due("9 between", x.state(0, 1509), 2);
        Check.due("9 then", x.state(0, 1510), 3);
        Check.thrown("9 no mould", Check.BOUNDS, () -> x.state(-1, 0));
        Check.thrown("9 year", Check.ARGUMENT, () -> x.state(0, 1901));
        Check.thrown("9 year below", Check.ARGUMENT, () -> x.state(0, 1399));
    }

    private static void wire() {
        Watermarkmill x = withMoulds(1);
        x.damage(0, 0, false, 1500);
        x.damage(0, 7, true, 1500);
        x.damage(0, 0, true, 1510);
        String states = "";
        for (int state = 0; state <= 3; state++) {
            states += "" + x.wire(0, state, 0) + x.wire(0, state, 1) + x.wire(0, state, 7) + " ";
        }
        Check.due("10 states", states, "--- b-- b-x x-x ");
        Check.thrown("10 no mould", Check.BOUNDS, () -> x.wire(1, 9, 9));
        Check.thrown("10 no wire", Check.ARGUMENT, () -> x.wire(0, 9, 8));
        Check.thrown("10 wire below", Check.ARGUMENT, () -> x.wire(0, 0, -1));
        Check.thrown("10 no state", Check.MISSING, () -> x.wire(0, 4, 0));
        Check.thrown("10 state below", Check.MISSING, () -> x.wire(0, -1, 0));
    }
}
