import java.util.List;
import java.util.function.IntFunction;

/**
 * What an object answers to some hundreds of calls, as one text: two objects that differ in anything that a call can
 * tell differ in it. The calls change the object, too, so that it is spent then.
 */
final class Portrait {
    static final int VIEWS = 5;
    /** Nothing is promised behind 512 calls, and those that made the object what it is count, too. */
    private static final int MOST_CALLS = 400;
    private static final int[] YEARS = {1400, 1490, 1499, 1500, 1501, 1510, 1900};

    private final Watermarkmill x;
    private final StringBuilder answers = new StringBuilder();
    private int calls = 0;

    private Portrait(Watermarkmill x) {
        this.x = x;
    }

    static String of(Watermarkmill x, int view) {
        Portrait portrait = new Portrait(x);
        switch (view) {
            case 0:
                portrait.moulds();
                break;
            case 1:
                portrait.paper();
                break;
            case 2:
                portrait.images();
                break;
            case 3:
                portrait.repertory();
                break;
            default:
                portrait.dating();
                break;
        }
        return portrait.answers.toString();
    }

    /** The answer goes into the portrait; whether there was one. */
    private boolean ask(String what, Check.Call call) {
        if (calls >= MOST_CALLS) {
            return false;
        }
        calls++;
        Object outcome = Check.outcome(call);
        answers.append(what).append('=').append(outcome).append(' ');
        return !(outcome instanceof String);
    }

    private int count(String what, int most, IntFunction<Object> look) {
        int count = 0;
        while (count < most && ask(what + count, lookAt(look, count))) {
            count++;
        }
        return count;
    }

    private static Check.Call lookAt(IntFunction<Object> look, int number) {
        return () -> look.apply(number);
    }

    private void moulds() {
        int moulds = count("state", 13, m -> x.state(m, 1900));
        for (int i = 0; i < moulds; i++) {
            int mould = i;
            count("wire", 8, w -> x.wire(mould, x.state(mould, 1900), w));
            count("owner", YEARS.length, y -> x.owner(mould, YEARS[y]));
            ask("early", () -> x.state(mould, 1500));
            ask("twin", () -> x.twin(mould, mould + 1));
            ask("twin", () -> x.twin(mould, mould + 2));
        }
        for (int i = 0; i < moulds; i++) {
            int mould = i;
            ask("sale", () -> x.sell(mould, (x.owner(mould, 1900) + 1) % 5, 1499));
            ask("sale", () -> x.sell(mould, (x.owner(mould, 1900) + 1) % 5, 1500));
            for (int year : YEARS) {
                ask("retired", () -> x.retire(mould, year));
            }
        }
        ask("mould", () -> x.mould(0, 0, 100, 100, 100, 100));
    }

    private void paper() {
        ask("share", x::usedShare);
        ask("age", x::meanAge);
        ask("sound", x::isSound);
        int reams = count("tariff", 21, r -> x.tariff(r));
        int documents = count("run", 21, d -> x.run(d, d));
        for (int i = 0; i < documents; i++) {
            int document = i;
            int leaves = count("mark", 9, leaf -> x.markIn(document, leaf + 1));
            int sheets = count("cancels", 6, sheet -> x.cancels(document, sheet));
            for (int j = 0; j < sheets; j++) {
                int sheet = j;
                count("leaf", leaves, leaf -> x.leafOf(document, sheet, leaf + 1));
            }
            ask("wash", () -> x.wash(document));
        }
        for (int i = 0; i < reams && documents > 0; i++) {
            int ream = i;
            count("use", 8, n -> List.of(x.use(n % documents, ream, 1), x.tariff(ream)));
        }
        for (int i = 0; i < 30 && reams > 0; i++) {
            int lot = i;
            count("put", 8, n -> List.of(x.put(reams - 1, lot, 1), x.tariff(reams - 1)));
        }
        ask("lot", () -> x.make(0, false, 1900, 1));
        ask("ream", () -> x.ream(0));
        ask("document", () -> x.document(1500, 0));
    }

    private void images() {
        ask("groups", x::groups);
        int images = count("distance", 41, i -> x.distance(i, 0));
        for (int i = 0; i < images; i++) {
            int image = i;
            count("distance", 4, which -> x.distance(image, which));
            ask("compare", () -> x.compare(0, image));
            ask("evidence", () -> x.evidence(image, 0));
        }
        ask("tolerance", () -> x.setTolerance(0));
        ask("groups", x::groups);
        ask("image", () -> x.image(0, 0, 0, 255));
        ask("washed", () -> x.distance(images, 3));
    }

    private void repertory() {
        ask("clashes", x::clashes);
        for (int i = 0; i < 4; i++) {
            int contributor = i;
            count("entry", 8, number -> x.entry(contributor, number));
            ask("entry", () -> x.entry(contributor, 99));
        }
        count("unmerge", 100, n -> List.of(x.unmerge(), x.clashes()));
    }

    private void dating() {
        ask("fits", x::fits);
        ask("years", x::years);
        ask("culprit", x::culprit);
        int documents = count("forged", 21, d -> x.forged(d, 1500));
        for (int i = 0; i < documents; i++) {
            int document = i;
            ask("first", () -> x.year(document, false));
            ask("last", () -> x.year(document, true));
            ask("ground of the first", () -> x.ground(document, false));
            ask("ground of the last", () -> x.ground(document, true));
        }
        for (int i = 0; i < Math.min(documents, 3); i++) {
            for (int state : new int[] {0, 1, 2, 3, 4, 5, 6, 19, 20}) {
                int document = i;
                ask("unclaim", () -> x.unclaim(document, 0, state));
                ask("unclaim", () -> x.unclaim(document, 1, state));
            }
        }
        ask("claim", () -> x.claim(0, 0, 7));
        count("date", documents, d -> x.date(d, 0));
        ask("age", () -> x.setAge(0));
    }
}
