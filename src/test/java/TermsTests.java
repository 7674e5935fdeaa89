import java.util.List;

/** What stands ahead of the promises: each sentence there that names a bound has a test of its own. */
public final class TermsTests {
    private static final Check check = new Check();

    public static void main(String[] args) {
        call512();
        daysFrom0();
        shelves4();
        warm0To3();
        batches6();
        vacuumAndLeaks();
        notRecalledAtFirst();
        tins60();
        vacuumOfItsBatch();
        oneOfThree();
        lessByLeaksAndWarm();
        onlyThoseInTheCellar();
        noLessThan0();
        swellsAt0();
        recalledAt3();
        recalledAt3InAll();
        recalledTakesItsTinsAlone();
        noneSealedOfRecalled();
        orderOldest();
        orderWeakest();
        orderWarmest();
        lessAheadOfShipping();
        recallsAheadOfShipping();
        recallsByNumbers();
        noneShippedAtFirst();
        asFarAsThereAreSome();
        dayIs1Greater();
        throwingChangesNothing();
        check.end();
    }

    // ---- the public face

    private static void call512() {
        check.part("'at most 512 calls'");
        TinCellar x = new TinCellar();
        for (int calls = 0; calls < 511; calls++) {
            x.pass(60);
        }
        check.same("day() as the call 512", x.day(), 30660);
        List<Cellars.Act> acts = List.of(TinCellar::digest, TinCellar::shippingWanted, y -> y.pass(60),
                y -> y.recall(5), y -> y.move(59, 0), y -> y.setShipping(9, 1), y -> y.daysUntilRecalled(5));
        for (Cellars.Act act : acts) {
            check.same("a call as the call 512", act.on(fullAfter511()), act.on(Cellars.full()));
        }
        TinCellar late = new TinCellar();
        late.addBatch(9, 0);
        for (int calls = 2; calls < 512; calls++) {
            late.warmOf(0);
        }
        check.same("seal() as the call 512", late.seal(0, 0, 20), 0);
    }

    /** Cellars.full() takes 22 calls. */
    private static TinCellar fullAfter511() {
        TinCellar x = Cellars.full();
        for (int calls = 22; calls < 511; calls++) {
            x.tins();
        }
        return x;
    }

    // ---- terms

    private static void daysFrom0() {
        check.part("'Time is told in days, from 0'");
        TinCellar x = new TinCellar();
        check.same("day() at first", x.day(), 0);
        x.pass(1);
        check.same("day() after one", x.day(), 1);
    }

    private static void shelves4() {
        check.part("'There are 4, numbered from 0'");
        TinCellar x = Cellars.withBatch(50, 0);
        for (int shelf = 0; shelf < 4; shelf++) {
            check.same("seal(0, " + shelf + ", 1)", x.seal(0, shelf, 1), shelf);
            check.same("shelfOf(" + shelf + ")", x.shelfOf(shelf), shelf);
            check.same("standOn(" + shelf + ")", x.standOn(shelf), 1);
            check.same("warmOf(" + shelf + ")", x.warmOf(shelf), 0);
            check.same("setWarm(" + shelf + ", 1)", x.setWarm(shelf, 1), 0);
            check.same("move(0, " + shelf + ")", x.move(0, shelf), 0);
            check.same("move(0, 0)", x.move(0, 0), shelf);
        }
        for (int shelf : new int[] {-1, 4}) {
            check.outOfBounds("seal(0, " + shelf + ", 1)", () -> x.seal(0, shelf, 1));
            check.outOfBounds("standOn(" + shelf + ")", () -> x.standOn(shelf));
            check.outOfBounds("warmOf(" + shelf + ")", () -> x.warmOf(shelf));
            check.outOfBounds("setWarm(" + shelf + ", 1)", () -> x.setWarm(shelf, 1));
            check.outOfBounds("move(0, " + shelf + ")", () -> x.move(0, shelf));
        }
    }

    private static void warm0To3() {
        check.part("'each is so warm as told, 0 to 3 (0, at first)'");
        TinCellar x = new TinCellar();
        for (int shelf = 0; shelf < 4; shelf++) {
            check.same("warmOf(" + shelf + ") at first", x.warmOf(shelf), 0);
            for (int warm = 0; warm <= 3; warm++) {
                x.setWarm(shelf, warm);
                check.same("warmOf(" + shelf + ") as told", x.warmOf(shelf), warm);
            }
            int on = shelf;
            check.illegalArgument("setWarm(" + shelf + ", -1)", () -> x.setWarm(on, -1));
            check.illegalArgument("setWarm(" + shelf + ", 4)", () -> x.setWarm(on, 4));
        }
        for (int shelf = 0; shelf < 4; shelf++) {
            check.same("warmOf(" + shelf + ") stays", x.warmOf(shelf), 3);
        }
    }

    private static void batches6() {
        check.part("'At most 6, numbered from 0'");
        TinCellar x = new TinCellar();
        for (int batch = 0; batch < 6; batch++) {
            check.same("addBatch(9, 1)", x.addBatch(9, 1), batch);
        }
        check.illegalState("a seventh", () -> x.addBatch(9, 1));
        check.same("batches()", x.batches(), 6);
        check.same("leftOf(5)", x.leftOf(5), 0);
        check.outOfBounds("leftOf(6)", () -> x.leftOf(6));
        x.recall(0);
        check.illegalState("a seventh with one recalled", () -> x.addBatch(9, 1));
    }

    private static void vacuumAndLeaks() {
        check.part("'each has a vacuum, 1 to 99, leaks 0 to 5 a day'");
        for (int vacuum = -3; vacuum <= 103; vacuum++) {
            for (int leaks = -3; leaks <= 9; leaks++) {
                TinCellar x = new TinCellar();
                int v = vacuum;
                int l = leaks;
                boolean allowed = v >= 1 && v <= 99 && l >= 0 && l <= 5;
                Object due = allowed ? (Object) 0 : "throws.IllegalArgumentException";
                check.answers("addBatch(" + v + ", " + l + ")", () -> x.addBatch(v, l), due);
                check.same("batches() after it", x.batches(), allowed ? 1 : 0);
            }
        }
    }

    private static void notRecalledAtFirst() {
        check.part("'and is recalled or not (not, at first)'");
        TinCellar x = Cellars.full();
        for (int batch = 0; batch < 6; batch++) {
            check.same("isRecalled(" + batch + ") at first", x.isRecalled(batch), false);
            x.recall(batch);
            check.same("isRecalled(" + batch + ")", x.isRecalled(batch), true);
        }
    }

    private static void tins60() {
        check.part("'They are numbered from 0 as they are sealed, 60 at the most in all'");
        TinCellar x = Cellars.withBatch(2, 1);
        x.addBatch(50, 0);
        check.same("the first", x.seal(1, 0, 1), 0);
        check.same("the next two", x.seal(0, 0, 2), 1);
        x.setShipping(1, 0);
        x.pass(2);
        check.same("one shipped", x.shipped(), 1);
        check.same("two lost", x.lost(), 2);
        check.same("the fourth, with none in the cellar", x.seal(1, 0, 20), 3);
        x.recall(0);
        check.same("the next 20", x.seal(1, 0, 20), 23);
        check.same("up to the tin 58", x.seal(1, 0, 16), 43);
        check.illegalState("two beyond it", () -> x.seal(1, 0, 2));
        check.same("the tin 59", x.seal(1, 0, 1), 59);
        check.illegalState("a tin 60, three of them being gone", () -> x.seal(1, 0, 1));
        check.same("tins()", x.tins(), 60);
        check.same("inCellar()", x.inCellar(), 57);
        check.same("vacuumOf(59)", x.vacuumOf(59), 50);
        check.outOfBounds("vacuumOf(60)", () -> x.vacuumOf(60));
    }

    private static void vacuumOfItsBatch() {
        check.part("'each is of a batch, stands on a shelf, and has at first the vacuum of its batch'");
        TinCellar x = Cellars.withBatch(1, 0);
        x.addBatch(99, 5);
        x.seal(1, 3, 1);
        x.pass(4);
        x.seal(1, 2, 1);
        x.seal(0, 1, 1);
        int[][] due = {{1, 3, 79}, {1, 2, 99}, {0, 1, 1}};
        for (int tin = 0; tin < 3; tin++) {
            check.same("batchOf(" + tin + ")", x.batchOf(tin), due[tin][0]);
            check.same("shelfOf(" + tin + ")", x.shelfOf(tin), due[tin][1]);
            check.same("vacuumOf(" + tin + ")", x.vacuumOf(tin), due[tin][2]);
        }
    }

    private static void oneOfThree() {
        check.part("'It is in the cellar, shipped, or lost'");
        for (TinCellar x : new TinCellar[] {Cellars.busy(), Cellars.full(), Cellars.mixed()}) {
            for (int days = 0; days < 30; days++) {
                int[] counts = new int[3];
                for (int tin = 0; tin < x.tins(); tin++) {
                    boolean[] is = {x.shelfOf(tin) >= 0, x.isShipped(tin), x.isLost(tin)};
                    int ofThem = 0;
                    for (int k = 0; k < 3; k++) {
                        counts[k] += is[k] ? 1 : 0;
                        ofThem += is[k] ? 1 : 0;
                    }
                    check.same("how many of the three the tin " + tin + " is", ofThem, 1);
                }
                check.same("inCellar()", x.inCellar(), counts[0]);
                check.same("shipped()", x.shipped(), counts[1]);
                check.same("lost()", x.lost(), counts[2]);
                x.pass(1);
            }
        }
    }

    private static void lessByLeaksAndWarm() {
        check.part("'less by what its batch leaks, and by how warm its shelf is'");
        for (int leaks = 0; leaks <= 5; leaks++) {
            for (int warm = 0; warm <= 3; warm++) {
                TinCellar x = Cellars.withBatch(99, leaks);
                x.setWarm(2, warm);
                x.seal(0, 2, 1);
                x.seal(0, 1, 1);
                x.pass(1);
                check.same("99 less " + leaks + " and " + warm, x.vacuumOf(0), 99 - leaks - warm);
                check.same("99 less " + leaks, x.vacuumOf(1), 99 - leaks);
                x.pass(2);
                check.same("99 less three times as much", x.vacuumOf(0), 99 - 3 * (leaks + warm));
            }
        }
    }

    private static void onlyThoseInTheCellar() {
        check.part("'the vacuum of a tin in the cellar is less'");
        TinCellar x = Cellars.withTins(50, 2, 2);
        x.addBatch(40, 3);
        x.seal(1, 0, 1);
        x.setWarm(0, 1);
        x.setShipping(1, 0);
        x.pass(1);
        x.recall(1);
        x.setShipping(0, 0);
        x.pass(5);
        check.same("of one shipped", x.vacuumOf(0), 47);
        check.same("of one in the cellar", x.vacuumOf(1), 32);
        check.same("of one lost", x.vacuumOf(2), 36);
    }

    private static void noLessThan0() {
        check.part("'but no less than 0'");
        for (int wear = 1; wear <= 8; wear++) {
            for (int vacuum = 1; vacuum <= 10; vacuum++) {
                TinCellar x = Cellars.withBatch(vacuum, Math.min(5, wear));
                x.setWarm(1, wear - Math.min(5, wear));
                x.seal(0, 1, 1);
                x.pass(1);
                check.same(vacuum + " less " + wear, x.vacuumOf(0), vacuum > wear ? vacuum - wear : 0);
                x.pass(60);
                check.same(vacuum + " at last", x.vacuumOf(0), 0);
            }
        }
    }

    private static void swellsAt0() {
        check.part("'Its lid swells, as the vacuum comes to 0; it is lost then'");
        for (int wear = 1; wear <= 8; wear++) {
            for (int vacuum = 1; vacuum <= 10; vacuum++) {
                TinCellar x = Cellars.withBatch(vacuum, Math.min(5, wear));
                x.setWarm(1, wear - Math.min(5, wear));
                x.seal(0, 1, 1);
                x.pass(1);
                boolean swells = vacuum <= wear;
                check.same(vacuum + " less " + wear + ": isLost(0)", x.isLost(0), swells);
                check.same(vacuum + " less " + wear + ": swelled()", x.swelled(), swells ? 1 : 0);
                check.same(vacuum + " less " + wear + ": shelfOf(0)", x.shelfOf(0), swells ? -1 : 1);
            }
        }
        TinCellar cold = Cellars.withTins(1, 0, 20);
        cold.pass(60);
        check.same("inCellar() of tins of 1 that lose nothing", cold.inCellar(), 20);
    }

    private static void recalledAt3() {
        check.part("'A batch is recalled as soon as 3 of its tins swelled'");
        for (int many = 1; many <= 20; many++) {
            TinCellar x = Cellars.withTins(4, 1, many);
            x.pass(3);
            check.same(many + " a day before", x.isRecalled(0), false);
            x.pass(1);
            check.same(many + " swelled", x.isRecalled(0), many >= 3);
            check.same("swelledOf(0)", x.swelledOf(0), many);
        }
        TinCellar two = Cellars.withTins(1, 1, 2);
        two.addBatch(1, 1);
        two.seal(1, 0, 2);
        two.pass(1);
        check.same("4 in all, 2 of the batch 0", two.isRecalled(0), false);
        check.same("4 in all, 2 of the batch 1", two.isRecalled(1), false);
    }

    private static void recalledAt3InAll() {
        check.part("'3 of its tins swelled in all'");
        TinCellar x = Cellars.withTins(3, 1, 1);
        for (int days = 1; days <= 4; days++) {
            x.pass(1);
            x.seal(0, days % 4, 1);
        }
        check.same("swelledOf(0) on the day 4", x.swelledOf(0), 2);
        check.same("isRecalled(0) on the day 4", x.isRecalled(0), false);
        x.pass(1);
        check.same("swelledOf(0) on the day 5", x.swelledOf(0), 3);
        check.same("isRecalled(0) on the day 5", x.isRecalled(0), true);
        check.same("lost() on the day 5", x.lost(), 5);
    }

    private static void recalledTakesItsTinsAlone() {
        check.part("'all its tins in the cellar are lost then'");
        TinCellar x = Cellars.withBatch(3, 0);
        x.addBatch(99, 5);
        x.setWarm(1, 1);
        x.seal(0, 3, 1);
        x.seal(0, 1, 3);
        x.seal(0, 2, 2);
        x.seal(1, 1, 3);
        x.setShipping(1, 0);
        x.pass(1);
        x.setShipping(0, 0);
        x.pass(1);
        check.same("lost() a day before", x.lost(), 0);
        x.pass(1);
        check.same("lost()", x.lost(), 5);
        check.same("swelled()", x.swelled(), 3);
        check.same("the one that was shipped", x.isShipped(0), true);
        check.same("one on a cold shelf", x.isLost(5), true);
        check.same("its vacuum", x.vacuumOf(5), 3);
        check.same("leftOf(0)", x.leftOf(0), 0);
        check.same("leftOf(1)", x.leftOf(1), 3);
    }

    private static void noneSealedOfRecalled() {
        check.part("'and no more are sealed of it'");
        TinCellar x = Cellars.withTins(2, 1, 2);
        x.addBatch(2, 1);
        x.seal(1, 0, 3);
        x.pass(2);
        check.same("seal of one with 2 swelled", x.seal(0, 0, 1), 5);
        check.illegalState("seal of one with 3 swelled", () -> x.seal(1, 0, 1));
        x.pass(2);
        check.illegalState("seal of the other one", () -> x.seal(0, 0, 1));
        check.same("tins()", x.tins(), 6);
    }

    // ---- orders

    private static void shippedFirst(String what, TinCellar x, int order, int... due) {
        for (int i = 0; i < due.length; i++) {
            x.setShipping(1, order);
            check.same(what + ": first(" + order + ") on the day " + i, x.first(order), due[i]);
            x.pass(1);
            check.same(what + ": isShipped(" + due[i] + ")", x.isShipped(due[i]), true);
        }
        check.same(what + ": inCellar()", x.inCellar(), 0);
    }

    /** Four tins that lose nothing, of the vacuums 9, 7, 8 and 7. */
    private static TinCellar fourCold() {
        TinCellar x = Cellars.withBatch(9, 0);
        x.addBatch(7, 0);
        x.addBatch(8, 0);
        x.seal(0, 3, 1);
        x.seal(1, 2, 1);
        x.seal(2, 1, 1);
        x.seal(1, 0, 1);
        return x;
    }

    private static void orderOldest() {
        check.part("'0 the oldest: those with the smallest numbers first'");
        shippedFirst("of four", fourCold(), 0, 0, 1, 2, 3);
    }

    private static void orderWeakest() {
        check.part("'1 the weakest: those with the least vacuum first', alike: 'the smallest number comes first'");
        shippedFirst("of four", fourCold(), 1, 1, 3, 2, 0);
        TinCellar ends = Cellars.withBatch(99, 0);
        ends.addBatch(1, 0);
        for (int i = 0; i < 3; i++) {
            ends.seal(0, 0, 19);
        }
        ends.seal(0, 0, 2);
        ends.seal(1, 0, 1);
        check.same("first(1) of 59 with 99 and one with 1", ends.first(1), 59);
        check.same("placeBy(0, 1) behind it", ends.placeBy(0, 1), 1);
    }

    private static void orderWarmest() {
        check.part("'2 the warmest: those on the warmest shelves first', alike: 'the smallest number comes first'");
        shippedFirst("on shelves alike", fourCold(), 2, 0, 1, 2, 3);
        TinCellar x = fourCold();
        x.setWarm(3, 1);
        x.setWarm(2, 0);
        x.setWarm(1, 1);
        check.same("first(2)", x.first(2), 0);
        int[] due = {0, 2, 1, 3};
        for (int tin = 0; tin < 4; tin++) {
            check.same("placeBy(" + tin + ", 2)", x.placeBy(tin, 2), due[tin]);
        }
        x.setWarm(0, 3);
        x.setWarm(2, 2);
        int[] dueNow = {2, 1, 3, 0};
        for (int tin = 0; tin < 4; tin++) {
            check.same("placeBy(" + tin + ", 2), all unlike", x.placeBy(tin, 2), dueNow[tin]);
        }
    }

    // ---- how a day goes

    private static void lessAheadOfShipping() {
        check.part("'1. Vacuums get less; lids swell.' ahead of '3. are shipped'");
        TinCellar x = Cellars.withTins(10, 5, 1);
        x.addBatch(8, 0);
        x.seal(1, 0, 1);
        check.same("first(1) ahead of the day", x.first(1), 1);
        x.setShipping(1, 1);
        x.pass(1);
        check.same("shipped is what is the weakest by then", x.isShipped(0), true);
        check.same("with the vacuum of then", x.vacuumOf(0), 5);
        TinCellar y = Cellars.withTins(1, 1, 1);
        y.setShipping(9, 0);
        check.same("pass(1) with one that swells on that day", y.pass(1), 0);
        check.same("lost()", y.lost(), 1);
    }

    private static void recallsAheadOfShipping() {
        check.part("'2. Batches, by numbers, are recalled' ahead of '3. are shipped'");
        TinCellar x = Cellars.withBatch(1, 0);
        x.addBatch(9, 0);
        x.setWarm(3, 1);
        x.seal(0, 0, 2);
        x.seal(0, 3, 3);
        x.seal(1, 0, 2);
        x.setShipping(2, 0);
        check.same("pass(1)", x.pass(1), 2);
        check.same("lost()", x.lost(), 5);
        check.same("isLost(0)", x.isLost(0), true);
        check.same("isShipped(5)", x.isShipped(5), true);
        check.same("isShipped(6)", x.isShipped(6), true);
    }

    private static void recallsByNumbers() {
        check.part("'2. Batches, by numbers, are recalled, if so'");
        TinCellar x = new TinCellar();
        for (int batch = 0; batch < 6; batch++) {
            x.addBatch(2, 0);
            x.seal(batch, batch == 4 ? 0 : 3, 3);
            x.seal(batch, 0, 2);
        }
        x.setWarm(3, 1);
        x.pass(1);
        check.same("lost() a day before", x.lost(), 0);
        x.pass(1);
        for (int batch = 0; batch < 6; batch++) {
            check.same("isRecalled(" + batch + ")", x.isRecalled(batch), batch != 4);
            check.same("leftOf(" + batch + ")", x.leftOf(batch), batch == 4 ? 5 : 0);
        }
        check.same("lost()", x.lost(), 25);
        check.same("swelled()", x.swelled(), 15);
    }

    private static void noneShippedAtFirst() {
        check.part("'(none, by the order 0, at first)'");
        TinCellar x = Cellars.withTins(50, 0, 20);
        check.same("pass(60)", x.pass(60), 0);
        check.same("shipped()", x.shipped(), 0);
        check.same("setShipping(1, 1) answers how many before", x.setShipping(1, 1), 0);
        check.same("2 wanted by the order 0", Cellars.oneWarmBehind(1).shippingWanted(), 2);
        check.same("2 wanted by the order 0, the others strong", Cellars.oneWarmBehind(99).shippingWanted(), 2);
    }

    private static void asFarAsThereAreSome() {
        check.part("'As many tins as setShipping() told, as far as there are some'");
        for (int many = 0; many <= 9; many++) {
            for (int tins = 1; tins <= 20; tins++) {
                TinCellar x = Cellars.withTins(50, 0, tins);
                x.setShipping(many, 0);
                check.same(many + " a day of " + tins, x.pass(1), Math.min(many, tins));
                check.same("inCellar()", x.inCellar(), Math.max(0, tins - many));
                check.same("the last day of three", x.pass(2), Math.min(2 * many, Math.max(0, tins - many)));
            }
        }
        TinCellar none = new TinCellar();
        none.setShipping(9, 2);
        check.same("pass(60) without tins", none.pass(60), 0);
    }

    private static void dayIs1Greater() {
        check.part("'4. The day is 1 greater'");
        TinCellar x = Cellars.busy();
        int start = x.day();
        for (int days = 1; days <= 60; days++) {
            x.pass(1);
            check.same("day()", x.day(), start + days);
        }
    }

    private static void throwingChangesNothing() {
        check.part("'A method that throws an exception changes nothing'");
        List<Cellars.Act> refused = List.of(y -> y.addBatch(0, 6), y -> y.seal(5, 4, 0), y -> y.move(20, 4),
                y -> y.move(0, 0), y -> y.setWarm(4, 4), y -> y.setShipping(10, 0), y -> y.setShipping(9, 3),
                y -> y.recall(0), y -> y.pass(61), y -> y.standOn(4), y -> y.placeBy(10, 3), y -> y.lostWith(9, 3));
        Cellars.Act all = x -> {
            for (Cellars.Act act : refused) {
                check.same("a refused call throws", Check.outcome(() -> act.on(x)) instanceof String, true);
            }
            return 0;
        };
        check.same("what follows all", Cellars.after(Cellars::busy, all), Cellars.afterNothing(Cellars::busy));
    }
}
