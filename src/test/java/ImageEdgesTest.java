/** The edges of the promises 24 to 33: too small, too large, empty, full, or refused, and what is just taken. */
final class ImageEdgesTest {
    public static void main(String[] args) {
        image();
        imageOrder();
        imageOfWashed();
        setTolerance();
        distance();
        compare();
        compareByDistance();
        compareByWire();
        evidence();
        groups();
        merge();
        unmerge();
        entry();
        clashes();
        Check.end();
    }

    /**
     * Mould 0, wire 0 bent in 1510, broken in 1520, wire 7 bent in 1530, and mould 1, its copy, wire 7 broken in 1500.
     * Document 0 has a sheet of each state of mould 0, then one of mould 1; document 1 has one of it, too.
     */
    private static Watermarkmill sheets() {
        Watermarkmill x = new Watermarkmill();
        x.mould(0, 7, 100, 149, 150, 400);
        x.copy(0, 0);
        x.make(0, false, 1500, 1);
        x.damage(0, 0, false, 1510);
        x.make(0, false, 1510, 1);
        x.damage(0, 0, true, 1520);
        x.make(0, false, 1520, 1);
        x.damage(0, 7, false, 1530);
        x.make(0, false, 1530, 1);
        x.damage(1, 7, true, 1500);
        x.make(1, false, 1500, 2);
        x.ream(0);
        x.document(1600, 0);
        x.document(1600, 3);
        for (int lot = 0; lot < 5; lot++) {
            x.put(0, lot, 1);
        }
        x.put(0, 4, 1);
        x.use(0, 0, 5);
        x.use(1, 0, 1);
        return x;
    }

    /** An image of each sheet of document 0, all of it seen, in its order. */
    private static Watermarkmill seen() {
        Watermarkmill x = sheets();
        for (int sheet = 0; sheet < 5; sheet++) {
            x.image(0, sheet, 0, 255);
        }
        return x;
    }

    /** As many images as there can be, of the first sheet, with the errors -20 to 19. */
    private static Watermarkmill full() {
        Watermarkmill x = sheets();
        for (int i = 0; i < 40; i++) {
            x.image(0, 0, i - 20, 255);
        }
        return x;
    }

    private static String distances(Watermarkmill x, int image) {
        return x.distance(image, 0) + " " + x.distance(image, 1) + " " + x.distance(image, 2) + " "
                + x.distance(image, 3);
    }

    private static void image() {
        Edge.Scene sheets = ImageEdgesTest::sheets;
        Edge.takes("24 the document", Check.BOUNDS, 0, 1, sheets, (x, n) -> x.image(n, 0, 0, 0));
        Edge.takes("24 the error", Check.ARGUMENT, -20, 20, sheets, (x, n) -> x.image(0, 0, n, 0));
        Edge.takes("24 the wires", Check.ARGUMENT, 0, 255, sheets, (x, n) -> x.image(0, 0, 0, n));
        Edge.takes("24 the sheet", Check.MISSING, 0, 4, sheets, (x, n) -> x.image(0, n, 0, 0));
        Edge.refuses("24 of a document without sheets", Check.MISSING, () -> {
            Watermarkmill x = sheets();
            x.document(1600, 0);
            return x;
        }, x -> x.image(2, 0, 0, 0));
        Edge.answers("24 the first is 0", 0, sheets, x -> x.image(1, 0, 0, 0));
        Edge.answers("24 the fortieth is 39", 119, ImageEdgesTest::full, x -> x.distance(39, 0));
        Edge.refuses("24 a forty-first", Check.STATE, ImageEdgesTest::full, x -> x.image(0, 0, 0, 0));
        Edge.answers("24 an image that was refused is none", 0, sheets, x -> {
            Check.outcome(() -> x.image(0, 5, 0, 0));
            return x.image(0, 0, 0, 0);
        });
    }

    private static void imageOrder() {
        Edge.Scene sheets = ImageEdgesTest::sheets;
        Edge.Scene full = ImageEdgesTest::full;
        Edge.refuses("24 the document ahead of the error", Check.BOUNDS, sheets, x -> x.image(2, 0, 21, 0));
        Edge.refuses("24 the document ahead of the wires", Check.BOUNDS, sheets, x -> x.image(-1, 0, 0, 256));
        Edge.refuses("24 the document ahead of the sheet", Check.BOUNDS, sheets, x -> x.image(2, -1, 0, 0));
        Edge.refuses("24 the document ahead of room", Check.BOUNDS, full, x -> x.image(2, 0, 0, 0));
        Edge.refuses("24 the error ahead of the sheet", Check.ARGUMENT, sheets, x -> x.image(0, 5, -21, 0));
        Edge.refuses("24 the wires ahead of the sheet", Check.ARGUMENT, sheets, x -> x.image(0, 5, 0, -1));
        Edge.refuses("24 the error ahead of room", Check.ARGUMENT, full, x -> x.image(0, 0, 21, 0));
        Edge.refuses("24 the wires ahead of room", Check.ARGUMENT, full, x -> x.image(0, 0, 0, 256));
        Edge.refuses("24 the sheet ahead of room", Check.MISSING, full, x -> x.image(0, 5, 0, 0));
    }

    private static void imageOfWashed() {
        Edge.Scene washed = () -> {
            Watermarkmill x = sheets();
            x.wash(0);
            return x;
        };
        Edge.answers("24 without error", "100 149 150 400", ImageEdgesTest::sheets,
                x -> distances(x, x.image(0, 0, 0, 255)));
        Edge.answers("24 the least error", "80 129 130 380", ImageEdgesTest::sheets,
                x -> distances(x, x.image(0, 0, -20, 255)));
        Edge.answers("24 the greatest error", "120 169 170 420", ImageEdgesTest::sheets,
                x -> distances(x, x.image(0, 0, 20, 255)));
        Edge.answers("24 less by the 50th, cut", "98 147 147 392", washed, x -> distances(x, x.image(0, 0, 0, 255)));
        Edge.answers("24 then the least error", "78 127 127 372", washed, x -> distances(x, x.image(0, 0, -20, 255)));
        Edge.answers("24 then the greatest error", "118 167 167 412", washed,
                x -> distances(x, x.image(0, 0, 20, 255)));
        Edge.answers("24 washed twice is washed", "98 147 147 392", washed,
                x -> x.wash(0) ? "" : distances(x, x.image(0, 0, 0, 255)));
        Edge.answers("24 another document is not washed", "100 149 150 400", washed,
                x -> distances(x, x.image(1, 0, 0, 255)));
        Edge.answers("24 washed behind the image", "100 149 150 400", ImageEdgesTest::seen,
                x -> x.wash(0) ? distances(x, 0) : "");
        Edge.answers("24 damage told behind the image", 0, ImageEdgesTest::seen, x -> {
            x.damage(1, 0, true, 1500);
            x.image(0, 4, 0, 255);
            return x.evidence(4, 4) + x.evidence(4, 5) - 1;
        });
    }

    private static void setTolerance() {
        Edge.takes("25 the tolerance", Check.ARGUMENT, 0, 50, ImageEdgesTest::seen, (x, n) -> x.setTolerance(n));
        Edge.answers("25 the one before", 50, ImageEdgesTest::seen, x -> {
            x.setTolerance(50);
            Check.outcome(() -> x.setTolerance(51));
            return x.setTolerance(0);
        });
        Edge.answers("25 the same again", 3, ImageEdgesTest::seen, x -> x.setTolerance(3) + x.setTolerance(3) - 3);
    }

    private static void distance() {
        Edge.Scene full = ImageEdgesTest::full;
        Edge.takes("26 the image", Check.BOUNDS, 0, 39, full, (x, n) -> x.distance(n, 0));
        Edge.takes("26 the distance", Check.ARGUMENT, 0, 3, full, (x, n) -> x.distance(0, n));
        Edge.refuses("26 no image at all", Check.BOUNDS, ImageEdgesTest::sheets, x -> x.distance(0, 0));
        Edge.refuses("26 the image ahead of the distance", Check.BOUNDS, full, x -> x.distance(40, 4));
    }

    private static void compare() {
        Edge.Scene full = ImageEdgesTest::full;
        Edge.Scene seen = ImageEdgesTest::seen;
        Edge.takes("27 the image", Check.BOUNDS, 0, 39, full, (x, n) -> x.compare(n, 0));
        Edge.takes("27 the other one", Check.BOUNDS, 0, 39, full, (x, n) -> x.compare(0, n));
        Edge.refuses("27 no image at all", Check.BOUNDS, ImageEdgesTest::sheets, x -> x.compare(0, 0));
        Edge.answers("27 itself", 's', seen, x -> x.compare(3, 3));
        Edge.answers("27 whole, then bent", 'e', seen, x -> x.compare(0, 1));
        Edge.answers("27 whole, then broken", 'e', seen, x -> x.compare(0, 2));
        Edge.answers("27 bent, then broken", 'e', seen, x -> x.compare(1, 2));
        Edge.answers("27 two wires, then none", 'l', seen, x -> x.compare(3, 0));
        Edge.answers("27 one wire each", 'd', seen, x -> x.compare(1, 4));
        Edge.answers("27 one wire each, the other way", 'd', seen, x -> x.compare(4, 1));
        Edge.answers("27 broken against bent, bent against broken", 'd', seen, x -> x.compare(3, 4));
        Edge.answers("27 the one wire is not seen", 'e', seen, x -> x.compare(1, x.image(0, 4, 0, 254)));
        Edge.answers("27 the other wire is not seen", 'e', seen, x -> x.compare(x.image(0, 4, 0, 127), 1));
        Edge.answers("27 nothing is seen", 's', seen, x -> x.compare(x.image(0, 0, 0, 0), 3));
        Edge.answers("27 nothing is seen in the other one", 's', seen, x -> x.compare(3, x.image(0, 0, 0, 0)));
    }

    /** An image of a sheet of mould 0, and one of another mould, of a mark and of distances that are more by this. */
    private static Watermarkmill two(int mark, int... more) {
        Watermarkmill x = new Watermarkmill();
        x.mould(0, 7, 200, 210, 220, 230);
        x.mould(0, mark, 200 + more[0], 210 + more[1], 220 + more[2], 230 + more[3]);
        x.make(0, false, 1500, 1);
        x.damage(1, 0, true, 1500);
        x.make(1, false, 1500, 1);
        x.ream(0);
        x.put(0, 0, 1);
        x.put(0, 1, 1);
        x.document(1600, 0);
        x.use(0, 0, 2);
        x.image(0, 0, 0, 255);
        x.image(0, 1, 0, 255);
        return x;
    }

    private static void compareByDistance() {
        for (int tolerance : new int[] {0, 3, 50}) {
            for (int which = 0; which < 4; which++) {
                for (int sign = -1; sign <= 1; sign += 2) {
                    int[] just = new int[4];
                    int[] over = new int[4];
                    just[which] = sign * tolerance;
                    over[which] = sign * (tolerance + 1);
                    String by = " at " + tolerance + " by the distance " + which + " of sign " + sign;
                    Edge.answers("27 near" + by, 'e', () -> two(7, just), x -> compare(x, tolerance, 0, 1));
                    Edge.answers("27 near, the other way" + by, 'l', () -> two(7, just),
                            x -> compare(x, tolerance, 1, 0));
                    Edge.answers("27 too far" + by, 'c', () -> two(7, over), x -> compare(x, tolerance, 0, 1));
                }
            }
        }
        Edge.answers("27 all four just near", 'e', () -> two(7, 3, -3, 3, -3), x -> x.compare(0, 1));
        Edge.answers("27 another mark", 'm', () -> two(8, 0, 0, 0, 0), x -> x.compare(0, 1));
        Edge.answers("27 another mark ahead of distances", 'm', () -> two(6, 100, 0, 0, 0), x -> x.compare(0, 1));
        Edge.answers("29 another mark", 2, () -> two(8, 0, 0, 0, 0), x -> x.groups());
        Edge.answers("29 too far", 2, () -> two(7, 0, 0, 0, 4), x -> x.groups());
        Edge.answers("29 near", 1, () -> two(7, 0, 0, 0, 3), x -> x.groups());
    }

    private static char compare(Watermarkmill x, int tolerance, int first, int second) {
        x.setTolerance(tolerance);
        return x.compare(first, second);
    }

    /** An image of a sheet with this wire damaged, and one of a sheet without damage. */
    private static Watermarkmill withWire(int wire) {
        Watermarkmill x = new Watermarkmill();
        x.mould(0, 7, 200, 210, 220, 230);
        x.make(0, false, 1500, 1);
        x.damage(0, wire, false, 1501);
        x.make(0, false, 1501, 1);
        x.ream(0);
        x.put(0, 0, 1);
        x.put(0, 1, 1);
        x.document(1600, 0);
        x.use(0, 0, 2);
        x.image(0, 1, 0, 255);
        x.image(0, 0, 0, 255);
        return x;
    }

    private static void compareByWire() {
        for (int i = 0; i < 8; i++) {
            int bit = 1 << i;
            int wire = i;
            Edge.Scene scene = () -> withWire(wire);
            Edge.answers("27 the later by the wire " + i, 'l', scene, x -> x.compare(0, 1));
            Edge.answers("27 the earlier by the wire " + i, 'e', scene, x -> x.compare(1, 0));
            Edge.answers("27 only this wire is seen, " + i, 'e', scene, x -> x.compare(x.image(0, 0, 0, bit), 0));
            Edge.answers("27 only this wire is not seen, " + i, 's', scene,
                    x -> x.compare(x.image(0, 0, 0, 255 - bit), 0));
            Edge.answers("28 the wire " + i, bit, scene, x -> x.evidence(0, 1));
            Edge.answers("28 only this wire is seen, " + i, bit, scene, x -> x.evidence(0, x.image(0, 0, 0, bit)));
            Edge.answers("28 only this wire is not seen, " + i, 0, scene,
                    x -> x.evidence(0, x.image(0, 0, 0, 255 - bit)));
        }
    }

    private static void evidence() {
        Edge.Scene full = ImageEdgesTest::full;
        Edge.takes("28 the image", Check.BOUNDS, 0, 39, full, (x, n) -> x.evidence(n, 0));
        Edge.takes("28 the other one", Check.BOUNDS, 0, 39, full, (x, n) -> x.evidence(0, n));
        Edge.refuses("28 no image at all", Check.BOUNDS, ImageEdgesTest::sheets, x -> x.evidence(0, 0));
        Edge.answers("28 itself", 0, ImageEdgesTest::seen, x -> x.evidence(3, 3));
        Edge.answers("28 of unlike moulds", 129, ImageEdgesTest::seen, x -> x.evidence(3, 4));
        Edge.answers("28 of unlike marks", 1, () -> two(8, 0, 0, 0, 0), x -> x.evidence(0, 1));
        Edge.answers("28 of unlike distances", 1, () -> two(7, 0, 0, 0, 51), x -> x.evidence(1, 0));
        Edge.answers("28 all eight wires", 255, () -> {
            Watermarkmill x = two(7, 0, 0, 0, 0);
            for (int wire = 1; wire < 8; wire++) {
                x.damage(1, wire, wire % 2 == 0, 1500);
            }
            x.image(0, 1, 0, 255);
            return x;
        }, x -> x.evidence(2, 0));
    }

    private static void groups() {
        Edge.answers("29 no image", 0, ImageEdgesTest::sheets, x -> x.groups());
        Edge.answers("29 one image", 1, ImageEdgesTest::sheets, x -> 1 + x.image(0, 0, 0, 0) * x.groups());
        Edge.answers("29 forty over others", 1, ImageEdgesTest::full, x -> x.groups());
        Edge.answers("29 forty at the tolerance of 1", 1, ImageEdgesTest::full,
                x -> x.setTolerance(1) == 3 ? x.groups() : -1);
        Edge.answers("29 forty apart", 40, ImageEdgesTest::full, x -> x.setTolerance(0) == 3 ? x.groups() : -1);
        Edge.answers("29 unlike moulds are one over what is whole", 1, ImageEdgesTest::seen, x -> x.groups());
        Edge.answers("29 unlike moulds are two without it", 2, ImageEdgesTest::sheets, x -> {
            x.image(0, 1, 0, 255);
            x.image(0, 4, 0, 255);
            return x.groups();
        });
        Edge.answers("29 over the last one, then each with each", "1 1", ImageEdgesTest::sheets, x -> {
            for (int error : new int[] {0, 6, 3}) {
                x.image(0, 0, error, 255);
            }
            int over = x.groups();
            x.setTolerance(50);
            return over + " " + x.groups();
        });
        Edge.answers("29 it is told anew each time", "1 40 1", ImageEdgesTest::full, x -> {
            int first = x.groups();
            x.setTolerance(0);
            int second = x.groups();
            x.setTolerance(50);
            return first + " " + second + " " + x.groups();
        });
    }

    /** Mergings of 0/0, 0/1 and 1/0, and of 3/98 with 3/99. */
    private static Watermarkmill merged() {
        Watermarkmill x = new Watermarkmill();
        x.merge(0, 0, 0, 1);
        x.merge(1, 0, 0, 1);
        x.merge(3, 98, 3, 99);
        return x;
    }

    private static void merge() {
        Edge.Scene merged = ImageEdgesTest::merged;
        Edge.takes("30 the contributor", Check.ARGUMENT, 0, 3, merged, (x, n) -> x.merge(n, 5, 2, 6));
        Edge.takes("30 its number", Check.ARGUMENT, 0, 99, merged, (x, n) -> x.merge(2, n, 2, 6));
        Edge.takes("30 the other contributor", Check.ARGUMENT, 0, 3, merged, (x, n) -> x.merge(2, 5, n, 6));
        Edge.takes("30 the other number", Check.ARGUMENT, 0, 99, merged, (x, n) -> x.merge(2, 5, 2, n));
        Edge.answers("30 they were not one", true, merged, x -> x.merge(3, 99, 0, 0));
        Edge.answers("30 they were one, as told", false, merged, x -> x.merge(0, 1, 0, 0));
        Edge.answers("30 they were one, over another", false, merged, x -> x.merge(1, 0, 0, 0));
        Edge.answers("30 one with itself", false, merged, x -> x.merge(2, 50, 2, 50));
        Edge.answers("30 it counts in any case", 3, merged, x -> x.merge(2, 50, 2, 50) ? -1 : x.unmerge());
        Edge.answers("30 a merging that was refused is none", 2, merged, x -> {
            Check.outcome(() -> x.merge(0, 0, 4, 0));
            return x.unmerge();
        });
    }

    private static void unmerge() {
        Edge.Scene merged = ImageEdgesTest::merged;
        Edge.refuses("31 none", Check.MISSING, Watermarkmill::new, x -> x.unmerge());
        Edge.refuses("31 none left", Check.MISSING, () -> {
            Watermarkmill x = merged();
            x.unmerge();
            x.unmerge();
            x.unmerge();
            return x;
        }, x -> x.unmerge());
        Edge.answers("31 how many are left", "2 1 0", merged, x -> x.unmerge() + " " + x.unmerge() + " " + x.unmerge());
        Edge.answers("31 just the last one", "399 100 0", merged,
                x -> x.unmerge() == 2 ? x.entry(3, 99) + " " + (x.entry(1, 0) + 100) + " " + x.entry(0, 1) : "");
        Edge.answers("31 told twice, taken back once", 0, merged,
                x -> x.merge(0, 0, 0, 1) ? -1 : x.unmerge() == 3 ? x.entry(0, 1) : -1);
        Edge.answers("31 taken back, then told again", true, merged, x -> x.unmerge() == 2 && x.merge(3, 98, 3, 99));
        Edge.answers("31 one for each call that is promised", 510, Watermarkmill::new, x -> {
            for (int i = 0; i < 511; i++) {
                x.merge(i % 4, i % 100, (i + 1) % 4, i / 6);
            }
            return x.unmerge();
        });
    }

    private static void entry() {
        Edge.Scene merged = ImageEdgesTest::merged;
        Edge.takes("32 the contributor", Check.ARGUMENT, 0, 3, merged, (x, n) -> x.entry(n, 0));
        Edge.takes("32 the number", Check.ARGUMENT, 0, 99, merged, (x, n) -> x.entry(0, n));
        Edge.answers("32 the first of all", 0, merged, x -> x.entry(0, 0));
        Edge.answers("32 the last of all, alone", 399, Watermarkmill::new, x -> x.entry(3, 99));
        Edge.answers("32 the last of all, of the lower number", 398, merged, x -> x.entry(3, 99));
        Edge.answers("32 of the lower contributor", 0, merged, x -> x.entry(1, 0));
        Edge.answers("32 the contributor ahead of the number", 199, merged,
                x -> x.merge(3, 98, 1, 99) ? x.entry(3, 99) : -1);
    }

    private static void clashes() {
        Edge.answers("33 none", 0, Watermarkmill::new, x -> x.clashes());
        Edge.answers("33 one of each contributor", 0, Watermarkmill::new, x -> {
            x.merge(0, 99, 1, 99);
            x.merge(2, 99, 3, 99);
            x.merge(1, 99, 2, 99);
            return x.clashes();
        });
        Edge.answers("33 two of one, over another", 2, Watermarkmill::new, x -> {
            x.merge(0, 99, 1, 0);
            x.merge(0, 0, 1, 0);
            return x.clashes();
        });
        Edge.answers("33 two by two", 4, ImageEdgesTest::merged, x -> x.clashes());
        Edge.answers("33 one with itself does not clash", 0, Watermarkmill::new,
                x -> x.merge(0, 0, 0, 0) ? -1 : x.clashes());
        Edge.answers("33 all numbers are one", 400, Watermarkmill::new, x -> {
            for (int i = 1; i < 400; i++) {
                x.merge(i / 100, i % 100, (i - 1) / 100, (i - 1) % 100);
            }
            return x.clashes();
        });
    }
}
