import java.util.List;

/** The promises 1 to 27: each sentence that names a bound has a test of its own. Refused calls: RefusalTests. */
public final class EdgeTests {
    private static final Check check = new Check();

    public static void main(String[] args) {
        newWithoutBatchesAndTins();
        newAtTheDay0();
        addBatchSmallestAndLargest();
        addBatchReturnsItsNumber();
        sealSmallestAndLargest();
        sealReturnsTheFirst();
        sealUpTo60();
        moveReturnsTheOneBefore();
        moveFromNowOn();
        setWarmReturnsHowWarmItWas();
        setWarmFromNowOn();
        setShippingReturnsHowManyItWas();
        setShippingTellsTheOrder();
        recallReturnsHowManyAreLost();
        recallOfNoTins();
        passSmallestAndLargest();
        passReturnsTheShipped();
        dayCounts();
        batchesCount();
        tinsInAll();
        inCellarCounts();
        shippedCounts();
        lostCounts();
        swelledCounts();
        standOnCounts();
        warmOfEach();
        batchOfEach();
        shelfOfThoseGone();
        vacuumAsItWasLast();
        isShippedOfEach();
        isLostOfEach();
        swelledOfEach();
        leftOfEach();
        isRecalledOfEach();
        firstWithoutAny();
        firstOfOneAndOfAll();
        placeByOfFirstAndLast();
        placeByOfThoseGone();
        check.end();
    }

    // ---- 1 to 8

    private static void newWithoutBatchesAndTins() {
        check.part("promise 1, 'without batches and tins'");
        TinCellar x = new TinCellar();
        int[] counts = {x.batches(), x.tins(), x.inCellar(), x.shipped(), x.lost(), x.swelled()};
        for (int count : counts) {
            check.same("a count of a new one", count, 0);
        }
        check.outOfBounds("isRecalled(0)", () -> x.isRecalled(0));
        check.outOfBounds("batchOf(0)", () -> x.batchOf(0));
        Cellars.full().pass(9);
        check.same("its view, with another one full", Cellars.view(x), Cellars.view(new TinCellar()));
        check.same("tins() of a newer one", new TinCellar().tins(), 0);
    }

    private static void newAtTheDay0() {
        check.part("promise 1, 'at the day 0'");
        TinCellar late = new TinCellar();
        late.pass(60);
        check.same("day() of one made after days of another", new TinCellar().day(), 0);
    }

    private static void addBatchSmallestAndLargest() {
        check.part("promise 2, 'vacuum 1 to 99', 'leaks 0 to 5'");
        int[][] allowed = {{1, 0}, {1, 5}, {99, 0}, {99, 5}, {2, 1}, {98, 4}};
        TinCellar x = new TinCellar();
        for (int batch = 0; batch < 6; batch++) {
            check.same("addBatch", x.addBatch(allowed[batch][0], allowed[batch][1]), batch);
            x.seal(batch, 0, 1);
            check.same("its vacuum", x.vacuumOf(batch), allowed[batch][0]);
        }
        x.pass(1);
        int[] due = {1, 0, 99, 94, 1, 94};
        for (int tin = 0; tin < 6; tin++) {
            check.same("its vacuum a day later", x.vacuumOf(tin), due[tin]);
        }
    }

    private static void addBatchReturnsItsNumber() {
        check.part("promise 2, 'Returns its number'");
        TinCellar x = new TinCellar();
        for (int batch = 0; batch < 6; batch++) {
            check.illegalArgument("a wrong one takes no number", () -> x.addBatch(100, 0));
            check.same("addBatch(9, 1)", x.addBatch(9, 1), batch);
            x.recall(batch);
        }
    }

    private static void sealSmallestAndLargest() {
        check.part("promise 3, 'no such batch or shelf', 'many is not 1 to 20'");
        for (int batch = -2; batch <= 3; batch++) {
            for (int shelf = -2; shelf <= 5; shelf++) {
                for (int many = -2; many <= 23; many++) {
                    sealBy(batch, shelf, many);
                }
            }
        }
    }

    private static void sealBy(int batch, int shelf, int many) {
        TinCellar x = Cellars.withBatch(9, 1);
        x.addBatch(8, 1);
        boolean there = batch >= 0 && batch < 2 && shelf >= 0 && shelf < 4;
        boolean allowed = there && many >= 1 && many <= 20;
        Object due = !there ? "throws.IndexOutOfBoundsException" : !allowed ? "throws.IllegalArgumentException" : 0;
        check.answers("seal(" + batch + ", " + shelf + ", " + many + ")", () -> x.seal(batch, shelf, many), due);
        check.same("tins() after it", x.tins(), allowed ? many : 0);
        if (allowed) {
            check.same("standOn(" + shelf + ")", x.standOn(shelf), many);
            check.same("leftOf(" + batch + ")", x.leftOf(batch), many);
        }
    }

    private static void sealReturnsTheFirst() {
        check.part("promise 3, 'Returns the number of the first one'");
        TinCellar x = Cellars.withBatch(1, 1);
        x.addBatch(9, 0);
        check.same("seal(0, 0, 2)", x.seal(0, 0, 2), 0);
        check.same("seal(1, 3, 20)", x.seal(1, 3, 20), 2);
        x.pass(1);
        check.same("seal(1, 0, 1) with two lost", x.seal(1, 0, 1), 22);
        check.same("seal(1, 0, 20)", x.seal(1, 0, 20), 23);
        check.same("seal(1, 0, 17)", x.seal(1, 0, 17), 43);
    }

    private static void sealUpTo60() {
        check.part("promise 3, 'if there would be more than 60'");
        for (int tins = 0; tins <= 60; tins++) {
            for (int many = 1; many <= 20; many++) {
                TinCellar x = Cellars.withBatch(50, 1);
                for (int left = tins; left > 0; left -= 20) {
                    x.seal(0, 0, Math.min(20, left));
                }
                int of = many;
                boolean allowed = tins + many <= 60;
                Object due = allowed ? (Object) tins : "throws.IllegalStateException";
                check.answers("seal(0, 0, " + many + ") with " + tins, () -> x.seal(0, 0, of), due);
                check.same("tins() after it", x.tins(), allowed ? tins + many : tins);
            }
        }
    }

    private static void moveReturnsTheOneBefore() {
        check.part("promise 4, 'Returns the one before'");
        TinCellar x = Cellars.full();
        for (int tin : new int[] {0, 59}) {
            int before = x.shelfOf(tin);
            for (int shelf = 0; shelf < 4; shelf++) {
                check.same("move(" + tin + ", " + shelf + ")", x.move(tin, shelf), before);
                check.same("move(" + tin + ", " + shelf + ") again", x.move(tin, shelf), shelf);
                before = shelf;
            }
        }
        check.same("standOn(3)", x.standOn(3), 16);
        check.same("standOn(0)", x.standOn(0), 14);
    }

    private static void moveFromNowOn() {
        check.part("promise 4, 'the shelf on which it stands from now on'");
        TinCellar x = Cellars.withTins(50, 0, 2);
        x.setWarm(3, 3);
        x.pass(1);
        x.move(1, 3);
        check.same("vacuumOf(1) at once", x.vacuumOf(1), 50);
        x.pass(1);
        check.same("vacuumOf(1) a day later", x.vacuumOf(1), 47);
        check.same("vacuumOf(0) a day later", x.vacuumOf(0), 50);
        x.move(1, 0);
        x.pass(1);
        check.same("vacuumOf(1), moved back", x.vacuumOf(1), 47);
    }

    private static void setWarmReturnsHowWarmItWas() {
        check.part("promise 5, 'Returns how warm it was', 'if warm is not 0 to 3'");
        for (int shelf = 0; shelf < 4; shelf++) {
            TinCellar x = new TinCellar();
            int was = 0;
            for (int warm : new int[] {3, 3, 0, 1, 2, 0}) {
                check.same("setWarm(" + shelf + ", " + warm + ")", x.setWarm(shelf, warm), was);
                was = warm;
            }
        }
    }

    private static void setWarmFromNowOn() {
        check.part("promise 5, 'how warm it is from now on'");
        TinCellar x = Cellars.withTins(50, 0, 1);
        x.pass(1);
        x.setWarm(0, 3);
        check.same("vacuumOf(0) at once", x.vacuumOf(0), 50);
        x.pass(2);
        check.same("vacuumOf(0) two days later", x.vacuumOf(0), 44);
        x.setWarm(0, 0);
        x.pass(1);
        check.same("vacuumOf(0), cold again", x.vacuumOf(0), 44);
    }

    private static void setShippingReturnsHowManyItWas() {
        check.part("promise 6, 'Returns how many it was before', 'if many is not 0 to 9, or order is not 0 to 2'");
        TinCellar x = new TinCellar();
        int was = 0;
        for (int many = 0; many <= 9; many++) {
            for (int order = 0; order <= 2; order++) {
                check.same("setShipping(" + many + ", " + order + ")", x.setShipping(many, order), was);
                was = many;
            }
        }
        check.same("setShipping(0, 0)", x.setShipping(0, 0), 9);
        check.same("setShipping(0, 0) again", x.setShipping(0, 0), 0);
    }

    private static void setShippingTellsTheOrder() {
        check.part("promise 6, 'by which order'");
        int[] due = {0, 2, 4};
        for (int order = 0; order <= 2; order++) {
            TinCellar x = Cellars.mixed();
            x.setShipping(9, (order + 1) % 3);
            x.setShipping(1, order);
            check.same("pass(1) by the order " + order, x.pass(1), 1);
            check.same("isShipped(" + due[order] + ") by it", x.isShipped(due[order]), true);
        }
    }

    private static void recallReturnsHowManyAreLost() {
        check.part("promise 7, 'Returns how many tins are lost by it'");
        TinCellar x = Cellars.withBatch(3, 0);
        x.addBatch(9, 0);
        x.setWarm(1, 3);
        x.seal(0, 0, 20);
        x.seal(0, 1, 2);
        x.seal(1, 0, 1);
        x.setShipping(3, 0);
        x.pass(1);
        check.same("recall(0) with 2 swelled and 3 shipped of 22", x.recall(0), 17);
        check.same("lost()", x.lost(), 19);
        check.same("shipped()", x.shipped(), 3);
        check.same("swelled()", x.swelled(), 2);
        TinCellar all = Cellars.withTins(9, 0, 20);
        all.seal(0, 1, 20);
        all.seal(0, 2, 20);
        check.same("recall(0) of 60", all.recall(0), 60);
        check.same("inCellar()", all.inCellar(), 0);
    }

    private static void recallOfNoTins() {
        check.part("promise 7, 'Returns how many tins are lost by it': none");
        TinCellar x = Cellars.withBatch(9, 0);
        check.same("recall(0) without tins", x.recall(0), 0);
        check.same("isRecalled(0)", x.isRecalled(0), true);
        TinCellar y = Cellars.withTins(9, 0, 9);
        y.setShipping(9, 0);
        y.pass(1);
        check.same("recall(0) with all shipped", y.recall(0), 0);
        check.same("lost()", y.lost(), 0);
        TinCellar z = Cellars.withTins(1, 1, 2);
        z.pass(1);
        check.same("recall(0) with all swelled", z.recall(0), 0);
        check.same("lost()", z.lost(), 2);
    }

    private static void passSmallestAndLargest() {
        check.part("promise 8, 'if days is not 1 to 60'");
        for (int days = -2; days <= 63; days++) {
            TinCellar x = Cellars.withTins(99, 0, 1);
            int d = days;
            boolean allowed = days >= 1 && days <= 60;
            Object due = allowed ? (Object) 0 : "throws.IllegalArgumentException";
            check.answers("pass(" + days + ")", () -> x.pass(d), due);
            check.same("day() after it", x.day(), allowed ? days : 0);
        }
        for (int days = 1; days <= 60; days++) {
            TinCellar at = Cellars.busy();
            TinCellar by = Cellars.busy();
            int sum = 0;
            for (int i = 0; i < days; i++) {
                sum += by.pass(1);
            }
            check.same("pass(" + days + ") at once", at.pass(days), sum);
            check.same("what it leaves", Cellars.view(at), Cellars.view(by));
        }
    }

    private static void passReturnsTheShipped() {
        check.part("promise 8, 'Returns how many tins are shipped in them'");
        TinCellar x = Cellars.full();
        x.setShipping(9, 0);
        check.same("pass(1)", x.pass(1), 9);
        check.same("pass(1), those shipped before do not count", x.pass(1), 9);
        check.same("shipped()", x.shipped(), 18);
        TinCellar lost = Cellars.withTins(1, 1, 20);
        lost.setShipping(9, 0);
        check.same("pass(60) with all lost", lost.pass(60), 0);
        TinCellar all = Cellars.withTins(99, 0, 20);
        all.seal(0, 0, 20);
        all.seal(0, 0, 20);
        all.setShipping(1, 2);
        check.same("pass(60), one of 60 a day", all.pass(60), 60);
        check.same("inCellar()", all.inCellar(), 0);
    }

    // ---- 9 to 17

    private static void dayCounts() {
        check.part("promise 9, 'Returns the day'");
        TinCellar x = new TinCellar();
        check.same("at first", x.day(), 0);
        x.pass(60);
        check.same("after 60", x.day(), 60);
        x.pass(1);
        check.same("after 61", x.day(), 61);
    }

    private static void batchesCount() {
        check.part("promise 10, 'how many batches there are'");
        TinCellar x = new TinCellar();
        for (int batch = 0; batch < 6; batch++) {
            check.same("batches()", x.batches(), batch);
            x.addBatch(9, 1);
        }
        x.recall(0);
        check.same("batches(), one of 6 recalled", x.batches(), 6);
    }

    private static void tinsInAll() {
        check.part("promise 11, 'how many tins there were in all'");
        TinCellar x = Cellars.busy();
        check.same("tins()", x.tins(), 20);
        x.pass(60);
        check.same("tins() with none left", x.tins(), 20);
        check.same("tins() of a full one", Cellars.full().tins(), 60);
    }

    private static void inCellarCounts() {
        check.part("promise 12, 'how many are in the cellar'");
        check.same("of a new one", new TinCellar().inCellar(), 0);
        check.same("of a full one", Cellars.full().inCellar(), 60);
        TinCellar x = Cellars.busy();
        check.same("of one with some gone", x.inCellar(), 10);
        x.pass(60);
        check.same("with none left", x.inCellar(), 0);
    }

    private static void shippedCounts() {
        check.part("promise 13, 'how many were shipped'");
        check.same("of a full one", Cellars.full().shipped(), 0);
        check.same("of one with some gone", Cellars.busy().shipped(), 4);
        TinCellar x = Cellars.withTins(99, 0, 20);
        x.setShipping(9, 0);
        x.pass(60);
        check.same("with all gone", x.shipped(), 20);
    }

    private static void lostCounts() {
        check.part("promise 14, 'how many are lost'");
        check.same("of a full one", Cellars.full().lost(), 0);
        check.same("of one with some gone", Cellars.busy().lost(), 6);
        TinCellar x = Cellars.withTins(1, 1, 20);
        x.seal(0, 1, 20);
        x.seal(0, 2, 20);
        x.pass(1);
        check.same("with all gone", x.lost(), 60);
    }

    private static void swelledCounts() {
        check.part("promise 15, 'how many lids swelled'");
        check.same("of a full one", Cellars.full().swelled(), 0);
        check.same("of one with some lost unswelled", Cellars.busy().swelled(), 4);
        TinCellar x = Cellars.withTins(1, 1, 20);
        x.seal(0, 1, 20);
        x.seal(0, 2, 20);
        x.pass(60);
        check.same("of 60", x.swelled(), 60);
    }

    private static void standOnCounts() {
        check.part("promise 16, 'how many tins stand on it'");
        for (int shelf = 0; shelf < 4; shelf++) {
            check.same("standOn(" + shelf + ") of a new one", new TinCellar().standOn(shelf), 0);
            check.same("standOn(" + shelf + ") of a full one", Cellars.full().standOn(shelf), 15);
        }
        int[] due = {4, 0, 0, 6};
        for (int shelf = 0; shelf < 4; shelf++) {
            check.same("standOn(" + shelf + ") with some gone", Cellars.busy().standOn(shelf), due[shelf]);
        }
        TinCellar x = Cellars.full();
        for (int tin = 0; tin < 60; tin++) {
            x.move(tin, 3);
        }
        check.same("standOn(3) with all there", x.standOn(3), 60);
        check.same("standOn(0) with none there", x.standOn(0), 0);
    }

    private static void warmOfEach() {
        check.part("promise 17, 'how warm it is'");
        TinCellar x = new TinCellar();
        for (int shelf = 0; shelf < 4; shelf++) {
            check.same("warmOf(" + shelf + ") at first", x.warmOf(shelf), 0);
            x.setWarm(shelf, 3 - shelf);
        }
        x.pass(60);
        for (int shelf = 0; shelf < 4; shelf++) {
            check.same("warmOf(" + shelf + ")", x.warmOf(shelf), 3 - shelf);
        }
    }

    // ---- 18 to 25

    private static final int[] BATCHES = {0, 0, 0, 0, 1, 2, 2, 2, 2, 3, 2, 2, 2, 3, 3, 3, 3, 4, 4, 4};
    private static final int[] SHELVES = {-1, -1, -1, -1, -1, -1, -1, -1, -1, -1, 3, 3, 3, 0, 0, 0, 0, 3, 3, 3};
    private static final int[] VACUUMS = {0, 0, 0, 2, 40, 29, 29, 28, 28, 0, 28, 28, 28, 4, 4, 4, 4, 21, 21, 21};

    private static void batchOfEach() {
        check.part("promise 18, 'Returns its batch'");
        TinCellar x = Cellars.busy();
        for (int tin = 0; tin < 20; tin++) {
            check.same("batchOf(" + tin + ")", x.batchOf(tin), BATCHES[tin]);
        }
        check.same("batchOf(0) of a full one", Cellars.full().batchOf(0), 0);
        check.same("batchOf(59) of a full one", Cellars.full().batchOf(59), 5);
    }

    private static void shelfOfThoseGone() {
        check.part("promise 19, '-1 if it is not in the cellar'");
        TinCellar x = Cellars.busy();
        for (int tin = 0; tin < 20; tin++) {
            check.same("shelfOf(" + tin + ")", x.shelfOf(tin), SHELVES[tin]);
        }
        check.same("shelfOf(0) of a full one", Cellars.full().shelfOf(0), 0);
        check.same("shelfOf(59) of a full one", Cellars.full().shelfOf(59), 3);
    }

    private static void vacuumAsItWasLast() {
        check.part("promise 20, 'as it was last, if it is not in the cellar'");
        TinCellar x = Cellars.busy();
        for (int tin = 0; tin < 20; tin++) {
            check.same("vacuumOf(" + tin + ")", x.vacuumOf(tin), VACUUMS[tin]);
        }
        for (int shelf = 0; shelf < 4; shelf++) {
            x.setWarm(shelf, 3);
        }
        x.pass(60);
        for (int tin = 0; tin < 10; tin++) {
            check.same("vacuumOf(" + tin + ") 60 days later", x.vacuumOf(tin), VACUUMS[tin]);
        }
    }

    private static void isShippedOfEach() {
        check.part("promise 21, 'whether it was shipped'");
        TinCellar x = Cellars.busy();
        for (int tin = 0; tin < 20; tin++) {
            check.same("isShipped(" + tin + ")", x.isShipped(tin), tin >= 5 && tin <= 8);
        }
        x.recall(2);
        check.same("isShipped(5) with its batch recalled", x.isShipped(5), true);
        check.same("isShipped(10) with its batch recalled", x.isShipped(10), false);
    }

    private static void isLostOfEach() {
        check.part("promise 22, 'whether it is lost'");
        TinCellar x = Cellars.busy();
        for (int tin = 0; tin < 20; tin++) {
            check.same("isLost(" + tin + ")", x.isLost(tin), tin <= 4 || tin == 9);
        }
        x.recall(2);
        check.same("isLost(5) with its batch recalled", x.isLost(5), false);
        check.same("isLost(10) with its batch recalled", x.isLost(10), true);
    }

    private static void swelledOfEach() {
        check.part("promise 23, 'how many of its lids swelled'");
        int[] due = {3, 0, 0, 1, 0};
        for (int batch = 0; batch < 5; batch++) {
            check.same("swelledOf(" + batch + ")", Cellars.busy().swelledOf(batch), due[batch]);
        }
        check.same("of a batch without tins", Cellars.withBatch(1, 5).swelledOf(0), 0);
        TinCellar x = Cellars.withTins(2, 1, 20);
        x.pass(1);
        check.same("swelledOf(0) a day before", x.swelledOf(0), 0);
        x.pass(60);
        check.same("swelledOf(0) of 20", x.swelledOf(0), 20);
    }

    private static void leftOfEach() {
        check.part("promise 24, 'how many of its tins are in the cellar'");
        int[] due = {0, 0, 3, 4, 3};
        for (int batch = 0; batch < 5; batch++) {
            check.same("leftOf(" + batch + ")", Cellars.busy().leftOf(batch), due[batch]);
        }
        for (int batch = 0; batch < 6; batch++) {
            check.same("leftOf(" + batch + ") of a full one", Cellars.full().leftOf(batch), 10);
        }
        check.same("of a batch without tins", Cellars.withBatch(1, 5).leftOf(0), 0);
    }

    private static void isRecalledOfEach() {
        check.part("promise 25, 'whether it is recalled'");
        TinCellar x = Cellars.busy();
        for (int batch = 0; batch < 5; batch++) {
            check.same("isRecalled(" + batch + ")", x.isRecalled(batch), batch < 2);
        }
        x.pass(60);
        check.same("isRecalled(0) 60 days later", x.isRecalled(0), true);
        check.same("a batch without tins", Cellars.withBatch(1, 5).isRecalled(0), false);
    }

    // ---- 26 and 27

    private static void firstWithoutAny() {
        check.part("promise 26, '-1 without any'");
        TinCellar shipped = Cellars.withTins(9, 0, 9);
        shipped.setShipping(9, 0);
        shipped.pass(1);
        TinCellar lost = Cellars.withTins(1, 1, 9);
        lost.pass(1);
        TinCellar recalled = Cellars.withTins(1, 1, 9);
        recalled.recall(0);
        for (TinCellar x : List.of(new TinCellar(), Cellars.withBatch(9, 0), shipped, lost, recalled)) {
            for (int order = 0; order <= 2; order++) {
                check.same("first(" + order + ")", x.first(order), -1);
            }
        }
    }

    private static void firstOfOneAndOfAll() {
        check.part("promise 26, 'the tin that comes first by it, of those in the cellar'");
        int[] dueOfBusy = {10, 13, 10};
        int[] dueOfFull = {0, 25, 15};
        for (int order = 0; order <= 2; order++) {
            check.same("first(" + order + ") of one tin", Cellars.withTins(9, 0, 1).first(order), 0);
            check.same("first(" + order + ") of some", Cellars.busy().first(order), dueOfBusy[order]);
            check.same("first(" + order + ") of 60", Cellars.full().first(order), dueOfFull[order]);
        }
        TinCellar last = Cellars.withTins(50, 0, 20);
        last.seal(0, 0, 20);
        last.seal(0, 0, 20);
        last.setShipping(1, 0);
        last.pass(59);
        check.same("first(0) with the tin 59 alone", last.first(0), 59);
    }

    private static void placeByOfFirstAndLast() {
        check.part("promise 27, 'how many tins come ahead of it by the order'");
        TinCellar x = Cellars.withTins(50, 0, 20);
        x.seal(0, 1, 20);
        x.seal(0, 2, 20);
        for (int order = 0; order <= 2; order++) {
            for (int tin = 0; tin < 60; tin++) {
                check.same("placeBy(" + tin + ", " + order + ") of 60 alike", x.placeBy(tin, order), tin);
            }
            check.same("placeBy(0, " + order + ") of one", Cellars.withTins(9, 0, 1).placeBy(0, order), 0);
        }
        int[][] due = {{0, 1, 2, 3, 4, 5, 6, 7, 8, 9}, {7, 8, 9, 0, 1, 2, 3, 4, 5, 6}, {0, 1, 2, 6, 7, 8, 9, 3, 4, 5}};
        TinCellar busy = Cellars.busy();
        for (int order = 0; order <= 2; order++) {
            for (int i = 0; i < 10; i++) {
                check.same("placeBy(" + (10 + i) + ", " + order + ")", busy.placeBy(10 + i, order), due[order][i]);
            }
        }
    }

    private static void placeByOfThoseGone() {
        check.part("promise 27, '-1 if it is not in the cellar'");
        TinCellar x = Cellars.busy();
        for (int tin = 0; tin < 10; tin++) {
            for (int order = 0; order <= 2; order++) {
                check.same("placeBy(" + tin + ", " + order + ")", x.placeBy(tin, order), -1);
            }
        }
    }
}
