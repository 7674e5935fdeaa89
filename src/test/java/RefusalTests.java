import java.util.List;
import java.util.function.Supplier;

/**
 * Each call that the document refuses: it throws the exception that is named first, and changes nothing. That nothing
 * changed is seen by a twin, made the same way but for the refused call, which has to go on in the same way.
 */
public final class RefusalTests {
    private static final String BOUNDS = "IndexOutOfBoundsException";
    private static final String ARGUMENT = "IllegalArgumentException";
    private static final String STATE = "IllegalStateException";

    private static final int LOST_BY_SWELLING = 0;
    private static final int LOST_WITH_ITS_BATCH = 3;
    private static final int LOST_BY_HAND = 4;
    private static final int SHIPPED = 5;
    private static final int SWELLED_ALONE = 9;
    private static final int[] GONE = {LOST_BY_SWELLING, LOST_WITH_ITS_BATCH, LOST_BY_HAND, SHIPPED, SWELLED_ALONE};
    private static final int IN_CELLAR = 10;

    private static final Supplier<TinCellar> NEW = TinCellar::new;
    private static final Supplier<TinCellar> BUSY = Cellars::busy;
    private static final Supplier<TinCellar> FULL = Cellars::full;
    private static final List<Supplier<TinCellar>> ALL = List.of(NEW, BUSY, FULL);

    private static final Check check = new Check();

    private interface AskNumber {
        Object of(TinCellar x, int number);
    }

    public static void main(String[] args) {
        addBatchOfWrongNumbers();
        addBatchBeyondSix();
        sealNowhere();
        sealOfWrongMany();
        sealBeyondSixty();
        sealOfRecalled();
        moveNowhere();
        moveOfGone();
        setWarm();
        setShipping();
        recallOfNone();
        recallAgain();
        pass();
        shelfThatIsNot();
        tinThatWasNot();
        batchThatIsNot();
        first();
        placeBy();
        lostWith();
        check.end();
    }

    private static void refused(Supplier<TinCellar> from, String what, String exception, Cellars.Act call) {
        check.answers(what, () -> call.on(from.get()), "throws." + exception);
        check.same("what follows " + what, Cellars.after(from, call), Cellars.afterNothing(from));
    }

    // ---- batches, tins, shelves

    private static void addBatchOfWrongNumbers() {
        check.part("promise 2, 'if vacuum is not 1 to 99, or leaks is not 0 to 5'");
        for (Supplier<TinCellar> from : List.of(NEW, BUSY)) {
            for (int vacuum : Cellars.outside(1, 99)) {
                refused(from, "addBatch(" + vacuum + ", 0)", ARGUMENT, x -> x.addBatch(vacuum, 0));
                refused(from, "addBatch(" + vacuum + ", 6)", ARGUMENT, x -> x.addBatch(vacuum, 6));
            }
            for (int leaks : Cellars.outside(0, 5)) {
                refused(from, "addBatch(1, " + leaks + ")", ARGUMENT, x -> x.addBatch(1, leaks));
                refused(from, "addBatch(99, " + leaks + ")", ARGUMENT, x -> x.addBatch(99, leaks));
            }
        }
    }

    private static void addBatchBeyondSix() {
        check.part("promise 2, 'if there are 6'");
        refused(FULL, "a seventh addBatch(1, 0)", STATE, x -> x.addBatch(1, 0));
        refused(FULL, "a seventh addBatch(99, 5)", STATE, x -> x.addBatch(99, 5));
        refused(RefusalTests::sixRecalled, "a seventh addBatch(9, 1), six recalled", STATE, x -> x.addBatch(9, 1));
        check.part("promise 2, of two exceptions the first");
        for (int vacuum : new int[] {0, 100}) {
            refused(FULL, "a seventh addBatch(" + vacuum + ", 0)", ARGUMENT, x -> x.addBatch(vacuum, 0));
        }
        for (int leaks : new int[] {-1, 6}) {
            refused(FULL, "a seventh addBatch(9, " + leaks + ")", ARGUMENT, x -> x.addBatch(9, leaks));
        }
    }

    private static TinCellar sixRecalled() {
        TinCellar x = new TinCellar();
        for (int batch = 0; batch < 6; batch++) {
            x.addBatch(9, 1);
            x.recall(batch);
        }
        return x;
    }

    private static void sealNowhere() {
        check.part("promise 3, 'if there is no such batch or shelf'");
        refused(NEW, "seal(0, 0, 1) without a batch", BOUNDS, x -> x.seal(0, 0, 1));
        for (int batch : Cellars.outside(0, 4)) {
            refused(BUSY, "seal(" + batch + ", 0, 1)", BOUNDS, x -> x.seal(batch, 0, 1));
        }
        for (int shelf : Cellars.outside(0, 3)) {
            refused(BUSY, "seal(2, " + shelf + ", 1)", BOUNDS, x -> x.seal(2, shelf, 1));
        }
        refused(BUSY, "seal(5, 4, 1)", BOUNDS, x -> x.seal(5, 4, 1));
        check.part("promise 3, of two exceptions the first: no batch or shelf");
        for (int many : new int[] {0, 21}) {
            refused(BUSY, "seal(5, 0, " + many + ")", BOUNDS, x -> x.seal(5, 0, many));
            refused(BUSY, "seal(-1, 0, " + many + ")", BOUNDS, x -> x.seal(-1, 0, many));
            refused(BUSY, "seal(2, 4, " + many + ")", BOUNDS, x -> x.seal(2, 4, many));
            refused(BUSY, "seal(2, -1, " + many + ")", BOUNDS, x -> x.seal(2, -1, many));
            refused(BUSY, "seal(0, 4, " + many + ") of a batch recalled", BOUNDS, x -> x.seal(0, 4, many));
        }
        refused(BUSY, "seal(0, 4, 1) of a batch recalled", BOUNDS, x -> x.seal(0, 4, 1));
        refused(FULL, "seal(6, 0, 1) with 60", BOUNDS, x -> x.seal(6, 0, 1));
        refused(FULL, "seal(0, 4, 1) with 60", BOUNDS, x -> x.seal(0, 4, 1));
    }

    private static void sealOfWrongMany() {
        check.part("promise 3, 'if many is not 1 to 20'");
        for (int many : Cellars.outside(1, 20)) {
            refused(BUSY, "seal(2, 0, " + many + ")", ARGUMENT, x -> x.seal(2, 0, many));
        }
        check.part("promise 3, of two exceptions the first: many");
        for (int many : new int[] {Integer.MIN_VALUE, 0, 21, Integer.MAX_VALUE}) {
            refused(BUSY, "seal(0, 0, " + many + ") of a batch recalled", ARGUMENT, x -> x.seal(0, 0, many));
            refused(FULL, "seal(0, 0, " + many + ") with 60", ARGUMENT, x -> x.seal(0, 0, many));
        }
    }

    private static void sealBeyondSixty() {
        check.part("promise 3, 'if there would be more than 60'");
        refused(FULL, "seal(0, 0, 1) with 60", STATE, x -> x.seal(0, 0, 1));
        refused(FULL, "seal(5, 3, 20) with 60", STATE, x -> x.seal(5, 3, 20));
        for (int many = 1; many <= 20; many++) {
            int tins = 61 - many;
            int of = many;
            refused(() -> holding(tins), "seal(0, 0, " + many + ") with " + tins, STATE, x -> x.seal(0, 0, of));
        }
        refused(RefusalTests::sixtyGone, "seal(1, 0, 1) with none left of 60", STATE, x -> x.seal(1, 0, 1));
    }

    private static TinCellar holding(int tins) {
        TinCellar x = Cellars.withBatch(50, 1);
        for (int left = tins; left > 0; left -= 20) {
            x.seal(0, 0, Math.min(20, left));
        }
        return x;
    }

    private static TinCellar sixtyGone() {
        TinCellar x = holding(60);
        x.addBatch(9, 1);
        x.setShipping(9, 0);
        x.pass(3);
        x.recall(0);
        return x;
    }

    private static void sealOfRecalled() {
        check.part("promise 3, 'or the batch is recalled'");
        refused(BUSY, "seal(0, 0, 1) of one recalled by swelling", STATE, x -> x.seal(0, 0, 1));
        refused(BUSY, "seal(1, 3, 20) of one recalled by hand", STATE, x -> x.seal(1, 3, 20));
        refused(RefusalTests::sixRecalled, "seal(5, 0, 1) of one that had no tins", STATE, x -> x.seal(5, 0, 1));
    }

    private static void moveNowhere() {
        check.part("promise 4, 'if there was no such tin, or there is no such shelf'");
        refused(NEW, "move(0, 0) without a tin", BOUNDS, x -> x.move(0, 0));
        for (int tin : Cellars.outside(0, 19)) {
            refused(BUSY, "move(" + tin + ", 0)", BOUNDS, x -> x.move(tin, 0));
        }
        for (int tin : Cellars.outside(0, 59)) {
            refused(FULL, "move(" + tin + ", 0)", BOUNDS, x -> x.move(tin, 0));
        }
        for (int shelf : Cellars.outside(0, 3)) {
            refused(BUSY, "move(10, " + shelf + ")", BOUNDS, x -> x.move(IN_CELLAR, shelf));
        }
        refused(BUSY, "move(20, 4)", BOUNDS, x -> x.move(20, 4));
        check.part("promise 4, of two exceptions the first");
        for (int tin : GONE) {
            refused(BUSY, "move(" + tin + ", 4)", BOUNDS, x -> x.move(tin, 4));
            refused(BUSY, "move(" + tin + ", -1)", BOUNDS, x -> x.move(tin, -1));
        }
    }

    private static void moveOfGone() {
        check.part("promise 4, 'if it is not in the cellar'");
        for (int tin : GONE) {
            for (int shelf = 0; shelf < 4; shelf++) {
                int to = shelf;
                refused(BUSY, "move(" + tin + ", " + to + ")", STATE, x -> x.move(tin, to));
            }
        }
    }

    private static void setWarm() {
        check.part("promise 5, 'if there is no such shelf'");
        for (Supplier<TinCellar> from : ALL) {
            for (int shelf : Cellars.outside(0, 3)) {
                refused(from, "setWarm(" + shelf + ", 1)", BOUNDS, x -> x.setWarm(shelf, 1));
            }
        }
        check.part("promise 5, 'if warm is not 0 to 3'");
        for (Supplier<TinCellar> from : ALL) {
            for (int warm : Cellars.outside(0, 3)) {
                refused(from, "setWarm(3, " + warm + ")", ARGUMENT, x -> x.setWarm(3, warm));
            }
        }
        check.part("promise 5, of two exceptions the first");
        for (int shelf : new int[] {-1, 4}) {
            refused(BUSY, "setWarm(" + shelf + ", -1)", BOUNDS, x -> x.setWarm(shelf, -1));
            refused(BUSY, "setWarm(" + shelf + ", 4)", BOUNDS, x -> x.setWarm(shelf, 4));
        }
    }

    private static void setShipping() {
        check.part("promise 6, 'if many is not 0 to 9, or order is not 0 to 2'");
        for (Supplier<TinCellar> from : ALL) {
            for (int many : Cellars.outside(0, 9)) {
                refused(from, "setShipping(" + many + ", 0)", ARGUMENT, x -> x.setShipping(many, 0));
            }
            for (int order : Cellars.outside(0, 2)) {
                refused(from, "setShipping(3, " + order + ")", ARGUMENT, x -> x.setShipping(3, order));
            }
            refused(from, "setShipping(10, 3)", ARGUMENT, x -> x.setShipping(10, 3));
        }
    }

    private static void recallOfNone() {
        check.part("promise 7, 'if there is no such batch'");
        refused(NEW, "recall(0) without a batch", BOUNDS, x -> x.recall(0));
        for (int batch : Cellars.outside(0, 4)) {
            refused(BUSY, "recall(" + batch + ")", BOUNDS, x -> x.recall(batch));
        }
        for (int batch : Cellars.outside(0, 5)) {
            refused(FULL, "recall(" + batch + ")", BOUNDS, x -> x.recall(batch));
        }
    }

    private static void recallAgain() {
        check.part("promise 7, 'if it is recalled already'");
        refused(BUSY, "recall(0), recalled by swelling", STATE, x -> x.recall(0));
        refused(BUSY, "recall(1), recalled by hand", STATE, x -> x.recall(1));
        refused(RefusalTests::sixRecalled, "recall(5), which had no tins", STATE, x -> x.recall(5));
    }

    private static void pass() {
        check.part("promise 8, 'if days is not 1 to 60'");
        for (Supplier<TinCellar> from : ALL) {
            for (int days : Cellars.outside(1, 60)) {
                refused(from, "pass(" + days + ")", ARGUMENT, x -> x.pass(days));
            }
        }
    }

    // ---- what is asked

    private static void refusedOfNew(int number, String name, AskNumber call) {
        refused(NEW, name + "(" + number + ") of a new one", BOUNDS, x -> call.of(x, number));
    }

    private static void refusedBeyond(Supplier<TinCellar> from, int count, String name, AskNumber call) {
        for (int number : Cellars.outside(0, count - 1)) {
            refused(from, name + "(" + number + ")", BOUNDS, x -> call.of(x, number));
        }
    }

    private static void noShelf(int promise, String name, AskNumber call) {
        check.part("promise " + promise + ", 'if there is no such shelf'");
        for (Supplier<TinCellar> from : ALL) {
            refusedBeyond(from, 4, name, call);
        }
    }

    private static void noTin(int promise, String name, AskNumber call) {
        check.part("promise " + promise + ", 'if there was no such tin'");
        refusedOfNew(0, name, call);
        refusedBeyond(BUSY, 20, name, call);
        refusedBeyond(FULL, 60, name, call);
    }

    private static void noBatch(int promise, String name, AskNumber call) {
        check.part("promise " + promise + ", 'if there is no such batch'");
        refusedOfNew(0, name, call);
        refusedBeyond(BUSY, 5, name, call);
        refusedBeyond(FULL, 6, name, call);
    }

    private static void shelfThatIsNot() {
        noShelf(16, "standOn", TinCellar::standOn);
        noShelf(17, "warmOf", TinCellar::warmOf);
    }

    private static void tinThatWasNot() {
        noTin(18, "batchOf", TinCellar::batchOf);
        noTin(19, "shelfOf", TinCellar::shelfOf);
        noTin(20, "vacuumOf", TinCellar::vacuumOf);
        noTin(21, "isShipped", TinCellar::isShipped);
        noTin(22, "isLost", TinCellar::isLost);
        noTin(27, "placeBy", (x, tin) -> x.placeBy(tin, 0));
        noTin(28, "daysOf", TinCellar::daysOf);
        noTin(33, "bestShelf", TinCellar::bestShelf);
    }

    private static void batchThatIsNot() {
        noBatch(23, "swelledOf", TinCellar::swelledOf);
        noBatch(24, "leftOf", TinCellar::leftOf);
        noBatch(25, "isRecalled", TinCellar::isRecalled);
        noBatch(29, "daysUntilRecalled", TinCellar::daysUntilRecalled);
    }

    private static void first() {
        check.part("promise 26, 'if order is not 0 to 2'");
        for (Supplier<TinCellar> from : ALL) {
            for (int order : Cellars.outside(0, 2)) {
                refused(from, "first(" + order + ")", ARGUMENT, x -> x.first(order));
            }
        }
    }

    private static void placeBy() {
        check.part("promise 27, 'if order is not 0 to 2'");
        for (int order : Cellars.outside(0, 2)) {
            refused(BUSY, "placeBy(10, " + order + ")", ARGUMENT, x -> x.placeBy(IN_CELLAR, order));
            refused(FULL, "placeBy(59, " + order + ")", ARGUMENT, x -> x.placeBy(59, order));
        }
        for (int tin : GONE) {
            refused(BUSY, "placeBy(" + tin + ", -1)", ARGUMENT, x -> x.placeBy(tin, -1));
            refused(BUSY, "placeBy(" + tin + ", 3)", ARGUMENT, x -> x.placeBy(tin, 3));
        }
        check.part("promise 27, of two exceptions the first");
        for (int order : new int[] {-1, 3}) {
            refused(NEW, "placeBy(0, " + order + ")", BOUNDS, x -> x.placeBy(0, order));
            refused(BUSY, "placeBy(-1, " + order + ")", BOUNDS, x -> x.placeBy(-1, order));
            refused(BUSY, "placeBy(20, " + order + ")", BOUNDS, x -> x.placeBy(20, order));
            refused(FULL, "placeBy(60, " + order + ")", BOUNDS, x -> x.placeBy(60, order));
        }
    }

    private static void lostWith() {
        check.part("promise 30, 'if many is not 0 to 9, or order is not 0 to 2'");
        for (Supplier<TinCellar> from : ALL) {
            for (int many : Cellars.outside(0, 9)) {
                refused(from, "lostWith(" + many + ", 0)", ARGUMENT, x -> x.lostWith(many, 0));
            }
            for (int order : Cellars.outside(0, 2)) {
                refused(from, "lostWith(0, " + order + ")", ARGUMENT, x -> x.lostWith(0, order));
            }
            refused(from, "lostWith(-1, -1)", ARGUMENT, x -> x.lostWith(-1, -1));
        }
    }
}
