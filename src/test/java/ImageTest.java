/** Promises 24 to 33: images and repertories. */
final class ImageTest {
    public static void main(String[] args) {
        image();
        imageStays();
        setTolerance();
        distance();
        compare();
        compareUnlike();
        groups();
        merge();
        unmerge();
        entry();
        clashes();
        Check.end();
    }

    /**
     * Document 0 of sheets of the mould 0 (mark 7), one each from 1500 (wires 0 to 7 whole), 1510 (wire 0 bent),
     * 1520 (wire 0 broken, wire 1 bent), and one of mould 1 of the same mark and distances from 1500 (wire 2 bent).
     */
    private static Watermarkmill withSheets() {
        Watermarkmill x = new Watermarkmill();
        x.mould(0, 7, 200, 249, 250, 400);
        x.copy(0, 0);
        x.make(0, false, 1500, 1);
        x.damage(0, 0, false, 1510);
        x.make(0, false, 1510, 1);
        x.damage(0, 0, true, 1520);
        x.damage(0, 1, false, 1520);
        x.make(0, false, 1520, 1);
        x.damage(1, 2, false, 1500);
        x.make(1, false, 1500, 1);
        x.ream(0);
        x.document(1600, 0);
        for (int lot = 0; lot < 4; lot++) {
            x.put(0, lot, 1);
        }
        x.use(0, 0, 4);
        return x;
    }

    private static String distances(Watermarkmill x, int image) {
        return x.distance(image, 0) + " " + x.distance(image, 1) + " " + x.distance(image, 2) + " "
                + x.distance(image, 3);
    }

    private static void image() {
        Watermarkmill x = withSheets();
        Check.thrown("24 no document", Check.BOUNDS, () -> x.image(1, 9, 99, 999));
        Check.thrown("24 error", Check.ARGUMENT, () -> x.image(0, 9, 21, 0));
        Check.thrown("24 error below", Check.ARGUMENT, () -> x.image(0, 0, -21, 0));
        Check.thrown("24 seen", Check.ARGUMENT, () -> x.image(0, 0, 0, 256));
        Check.thrown("24 seen below", Check.ARGUMENT, () -> x.image(0, 0, 0, -1));
        Check.thrown("24 no sheet", Check.MISSING, () -> x.image(0, 4, 0, 0));
        Check.thrown("24 sheet below", Check.MISSING, () -> x.image(0, -1, 0, 0));
        for (int i = 0; i < 40; i++) {
            Check.due("24 numbers", x.image(0, i % 4, i - 20, i), i);
        }
        Check.thrown("24 full", Check.STATE, () -> x.image(0, 0, 20, 255));
        Check.thrown("24 sheet ahead of full", Check.MISSING, () -> x.image(0, 4, 0, 0));
    }

    private static void imageStays() {
        Watermarkmill x = withSheets();
        x.image(0, 0, 0, 255);
        x.wash(0);
        x.image(0, 0, 0, 255);
        x.image(0, 0, -20, 255);
        x.image(0, 3, 0, 255);
        x.damage(1, 3, false, 1500);
        x.image(0, 3, 0, 255);
        Check.due("24 as it was", distances(x, 0), "200 249 250 400");
        Check.due("24 washed", distances(x, 1), "196 245 245 392");
        Check.due("24 washed, then the error", distances(x, 2), "176 225 225 372");
        Check.due("24 damage told later shows later", x.evidence(3, 4), 8);
        Check.due("24 but not in the one before", x.evidence(1, 3), 4);
    }

    private static void setTolerance() {
        Watermarkmill x = withSheets();
        Check.due("25 at first", x.setTolerance(50), 3);
        Check.thrown("25 above", Check.ARGUMENT, () -> x.setTolerance(51));
        Check.thrown("25 below", Check.ARGUMENT, () -> x.setTolerance(-1));
        Check.due("25 before", x.setTolerance(0), 50);
        x.image(0, 0, 0, 0);
        x.image(0, 0, 1, 0);
        Check.due("25 none", x.compare(0, 1), 'c');
        x.setTolerance(1);
        Check.due("25 at most", x.compare(0, 1), 's');
    }

    private static void distance() {
        Watermarkmill x = withSheets();
        x.image(0, 0, 20, 0);
        Check.due("26 all", distances(x, 0), "220 269 270 420");
        Check.thrown("26 no image", Check.BOUNDS, () -> x.distance(1, 9));
        Check.thrown("26 below", Check.BOUNDS, () -> x.distance(-1, 0));
        Check.thrown("26 which", Check.ARGUMENT, () -> x.distance(0, 4));
        Check.thrown("26 which below", Check.ARGUMENT, () -> x.distance(0, -1));
    }

    private static void compare() {
        Watermarkmill x = withSheets();
        x.image(0, 0, 0, 255);
        x.image(0, 1, 3, 255);
        x.image(0, 2, 0, 255);
        x.image(0, 3, -3, 255);
        x.image(0, 2, 0, 252);
        x.image(0, 3, 4, 255);
        Check.due("27 earlier", x.compare(0, 1), 'e');
        Check.due("27 later", x.compare(1, 0), 'l');
        Check.due("27 bent, then broken", x.compare(1, 2), 'e');
        Check.due("27 unlike moulds", x.compare(2, 3), 'd');
        Check.due("27 unlike, the other way", x.compare(3, 2), 'd');
        Check.due("27 itself", x.compare(2, 2), 's');
        Check.due("27 what is not seen", x.compare(0, 4), 's');
        Check.due("27 too far", x.compare(0, 5), 'c');
        Check.due("27 too far, both ways", x.compare(3, 1), 'c');
        Check.thrown("27 no image", Check.BOUNDS, () -> x.compare(6, 0));
        Check.thrown("27 no other image", Check.BOUNDS, () -> x.compare(0, -1));
        Check.due("28 one wire", x.evidence(0, 1), 1);
        Check.due("28 two wires", x.evidence(2, 0), 3);
        Check.due("28 unlike moulds", x.evidence(2, 3), 7);
        Check.due("28 only what both see", x.evidence(3, 4), 4);
        Check.due("28 without fitting", x.evidence(0, 5), 4);
        Check.due("28 itself", x.evidence(2, 2), 0);
        Check.thrown("28 no image", Check.BOUNDS, () -> x.evidence(6, 0));
        Check.thrown("28 no other image", Check.BOUNDS, () -> x.evidence(0, 6));
    }

    private static void compareUnlike() {
        Watermarkmill x = withSheets();
        x.mould(0, 8, 300, 300, 300, 300);
        x.mould(0, 7, 200, 249, 250, 396);
        x.make(2, false, 1500, 1);
        x.make(3, false, 1500, 1);
        x.ream(0);
        x.put(1, 4, 1);
        x.put(1, 5, 1);
        x.use(0, 1, 2);
        x.image(0, 0, 0, 255);
        x.image(0, 4, 0, 255);
        x.image(0, 5, 0, 255);
        Check.due("27 marks ahead of distances", x.compare(0, 1), 'm');
        Check.due("27 one distance of four", x.compare(0, 2), 'c');
    }

    private static void groups() {
        Watermarkmill x = withSheets();
        Check.due("29 none", x.groups(), 0);
        x.image(0, 2, 0, 255);
        Check.due("29 one", x.groups(), 1);
        x.image(0, 3, 0, 255);
        Check.due("29 unlike moulds", x.groups(), 2);
        x.image(0, 0, 6, 255);
        Check.due("29 too far", x.groups(), 3);
        x.image(0, 0, 3, 255);
        Check.due("29 all over the last one", x.groups(), 1);
        x.setTolerance(2);
        Check.due("29 by the tolerance of now", x.groups(), 4);
        Watermarkmill y = withSheets();
        y.setTolerance(1);
        for (int error : new int[] {0, 10, 1, 11, 5, 20, 2, 12, 3, -9}) {
            y.image(0, 0, error, 0);
        }
        Check.due("29 0 to 3, 10 to 12, 5, 20, -9", y.groups(), 5);
    }

    private static void merge() {
        Watermarkmill x = new Watermarkmill();
        int[][] wrong = {{-1, 0, 0, 0}, {4, 0, 0, 0}, {0, -1, 0, 0}, {0, 100, 0, 0}, {0, 0, -1, 0}, {0, 0, 4, 0},
            {0, 0, 0, -1}, {0, 0, 0, 100}};
        for (int[] w : wrong) {
            Check.thrown("30 out of range", Check.ARGUMENT, () -> x.merge(w[0], w[1], w[2], w[3]));
        }
        Check.thrown("30 no merging by that", Check.MISSING, x::unmerge);
        Check.due("30 new", x.merge(3, 99, 0, 0), true);
        Check.due("30 again", x.merge(0, 0, 3, 99), false);
        Check.due("30 itself", x.merge(1, 1, 1, 1), false);
        Check.due("30 another one", x.merge(1, 1, 0, 0), true);
        Check.due("30 over another", x.merge(1, 1, 3, 99), false);
        Check.due("30 all count", x.unmerge(), 4);
    }

    private static void unmerge() {
        Watermarkmill x = new Watermarkmill();
        Check.thrown("31 none", Check.MISSING, x::unmerge);
        x.merge(0, 5, 0, 6);
        x.merge(0, 6, 0, 7);
        x.merge(0, 7, 0, 5);
        x.merge(0, 4, 0, 7);
        Check.due("31 all one", x.entry(0, 7), 4);
        Check.due("31 the last one", x.unmerge(), 3);
        Check.due("31 is back", x.entry(0, 7), 5);
        Check.due("31 that told nothing new", x.unmerge(), 2);
        Check.due("31 still one", x.entry(0, 7), 5);
        Check.due("31 then", x.unmerge(), 1);
        Check.due("31 apart", x.entry(0, 7), 7);
        Check.due("31 the first ones still", x.entry(0, 6), 5);
        Check.due("31 last", x.unmerge(), 0);
        Check.due("31 all apart", x.clashes(), 0);
        Check.thrown("31 no more", Check.MISSING, x::unmerge);
        Watermarkmill y = new Watermarkmill();
        for (int i = 0; i < 511; i++) {
            y.merge(0, i % 7, 1, i % 11);
        }
        Check.due("31 as many as there are calls", y.unmerge(), 510);
    }

    private static void entry() {
        Watermarkmill x = new Watermarkmill();
        Check.due("32 alone", x.entry(3, 99), 399);
        x.merge(3, 0, 2, 50);
        Check.due("32 lowest contributor", x.entry(3, 0), 250);
        x.merge(2, 50, 2, 49);
        Check.due("32 lowest number of it", x.entry(3, 0), 249);
        x.merge(3, 1, 1, 99);
        x.merge(3, 1, 2, 49);
        Check.due("32 two groups made one", x.entry(2, 50), 199);
        Check.thrown("32 contributor", Check.ARGUMENT, () -> x.entry(4, 0));
        Check.thrown("32 contributor below", Check.ARGUMENT, () -> x.entry(-1, 0));
        Check.thrown("32 number", Check.ARGUMENT, () -> x.entry(0, 100));
        Check.thrown("32 number below", Check.ARGUMENT, () -> x.entry(0, -1));
        Watermarkmill y = new Watermarkmill();
        for (int i = 1; i < 400; i++) {
            y.merge((400 - i) / 100, (400 - i) % 100, (399 - i) / 100, (399 - i) % 100);
        }
        Check.due("32 a long chain", y.entry(3, 99), 0);
    }

    private static void clashes() {
        Watermarkmill x = new Watermarkmill();
        x.merge(0, 1, 1, 1);
        Check.due("33 of two contributors", x.clashes(), 0);
        x.merge(0, 2, 1, 1);
        Check.due("33 two of one", x.clashes(), 2);
        x.merge(1, 2, 0, 2);
        Check.due("33 two of each", x.clashes(), 4);
        x.merge(1, 3, 1, 2);
        Check.due("33 three of the other", x.clashes(), 5);
        x.merge(3, 98, 3, 99);
        Check.due("33 elsewhere, too", x.clashes(), 7);
        x.unmerge();
        Check.due("33 taken back", x.clashes(), 5);
    }
}
