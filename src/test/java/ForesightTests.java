import java.math.BigInteger;
import java.util.ArrayList;
import java.util.List;
import java.util.function.Supplier;

/** The promises 28 to 35, what would be: each sentence that names a bound has a test of its own. */
public final class ForesightTests {
    private static final List<Supplier<TinCellar>> MANY = List.of(TinCellar::new, Cellars::busy, Cellars::full,
            Cellars::mixed, () -> Cellars.oneWarmBehind(1), () -> Cellars.oneWarmBehind(99),
            ForesightTests::threeKinds);

    private static final Check check = new Check();

    public static void main(String[] args) {
        daysOfIs1OrMore();
        daysOfNever();
        daysOfThoseGone();
        daysOfWhateverElseIsDone();
        untilRecalledIs0();
        untilRecalledAtMost60();
        untilRecalledNotByThen();
        untilRecalledWithShipping();
        untilRecalledAsDaysGo();
        lostWithin30Days();
        lostNowDoNotCount();
        lostWithSoMany();
        lostWithAsDaysGo();
        bestOrderOfEach();
        bestOrderOfSeveral();
        bestOrderAsManyAsNow();
        wantedNone();
        wanted9();
        wantedMoreThan9();
        wantedByTheOrderOfNow();
        wantedWithin30Days();
        bestShelfNever();
        bestShelfOfSeveral();
        bestShelfOfAllWarmths();
        bestShelfOfThoseGone();
        meanWithoutAny();
        meanOfThoseInTheCellar();
        digestOfNew();
        digestWraps();
        digestAsDaysGo();
        check.end();
    }

    /** One tin that swells on the second day, four weak ones that never do, and five on a warm shelf. */
    private static TinCellar threeKinds() {
        TinCellar x = Cellars.withBatch(4, 2);
        x.addBatch(1, 0);
        x.addBatch(99, 0);
        x.setWarm(1, 1);
        x.seal(0, 0, 1);
        x.seal(1, 0, 4);
        x.seal(2, 1, 5);
        return x;
    }

    private static TinCellar inState(Supplier<TinCellar> from, int days) {
        TinCellar x = from.get();
        if (days > 0) {
            x.pass(days);
        }
        return x;
    }

    // ---- 28

    private static void daysOfIs1OrMore() {
        check.part("promise 28, 'in how many days its lid swells': '1 or more'");
        for (int wear = 1; wear <= 8; wear++) {
            for (int vacuum = 1; vacuum <= 99; vacuum++) {
                TinCellar x = Cellars.withBatch(vacuum, Math.min(5, wear));
                x.setWarm(2, wear - Math.min(5, wear));
                x.seal(0, 2, 1);
                int due = x.daysOf(0);
                for (int days = due; days >= 1 && !x.isLost(0); days--) {
                    check.same(vacuum + " less " + wear + " a day", x.daysOf(0), days);
                    x.pass(1);
                }
                check.same(vacuum + " less " + wear + " a day, swelled", x.isLost(0), true);
                check.same(vacuum + " less " + wear + " a day, on the day", x.day(), due);
            }
        }
        check.same("of 1, losing 1", Cellars.withTins(1, 1, 1).daysOf(0), 1);
        check.same("of 5, losing 5", Cellars.withTins(5, 5, 1).daysOf(0), 1);
        check.same("of 6, losing 5", Cellars.withTins(6, 5, 1).daysOf(0), 2);
        check.same("of 99, losing 1", Cellars.withTins(99, 1, 1).daysOf(0), 99);
    }

    private static void daysOfNever() {
        check.part("promise 28, '-1 if never'");
        TinCellar x = Cellars.withTins(1, 0, 1);
        check.same("of 1, losing none", x.daysOf(0), -1);
        check.same("of 99, losing none", Cellars.withTins(99, 0, 1).daysOf(0), -1);
        x.setWarm(1, 1);
        check.same("with another shelf warm", x.daysOf(0), -1);
        x.move(0, 1);
        check.same("on a warm shelf", x.daysOf(0), 1);
    }

    private static void daysOfThoseGone() {
        check.part("promise 28, '-1 if it is not in the cellar'");
        TinCellar x = Cellars.busy();
        for (int tin = 0; tin < 10; tin++) {
            check.same("daysOf(" + tin + ")", x.daysOf(tin), -1);
        }
        int[] due = {10, 10, 10, 4, 4, 4, 4, 6, 6, 6};
        for (int tin = 10; tin < 20; tin++) {
            check.same("daysOf(" + tin + ")", x.daysOf(tin), due[tin - 10]);
        }
    }

    private static void daysOfWhateverElseIsDone() {
        check.part("promise 28, 'whatever else is done'");
        TinCellar x = Cellars.withTins(9, 1, 4);
        x.setWarm(1, 3);
        for (int tin = 0; tin < 3; tin++) {
            x.move(tin, 1);
        }
        x.setShipping(9, 2);
        check.same("shipped sooner", x.daysOf(0), 3);
        x.setShipping(0, 0);
        check.same("recalled sooner", x.daysUntilRecalled(0), 3);
        check.same("lost by a recall sooner", x.daysOf(3), 9);
    }

    // ---- 29

    private static void untilRecalledIs0() {
        check.part("promise 29, '0 if it is'");
        TinCellar x = Cellars.busy();
        check.same("recalled by swelling", x.daysUntilRecalled(0), 0);
        check.same("recalled by hand", x.daysUntilRecalled(1), 0);
        TinCellar y = Cellars.withBatch(9, 0);
        y.recall(0);
        check.same("recalled without tins", y.daysUntilRecalled(0), 0);
    }

    private static void untilRecalledAtMost60() {
        check.part("promise 29, 'at most 60'");
        for (int vacuum = 1; vacuum <= 99; vacuum++) {
            TinCellar x = Cellars.withTins(vacuum, 1, 3);
            check.same("3 tins of " + vacuum + " that lose 1", x.daysUntilRecalled(0), vacuum <= 60 ? vacuum : -1);
            x.pass(1);
            int due = vacuum <= 61 ? vacuum - 1 : -1;
            check.same("3 tins of " + vacuum + " that lose 1, a day later", x.daysUntilRecalled(0), due);
        }
    }

    private static void untilRecalledNotByThen() {
        check.part("promise 29, '-1 if not by then'");
        check.same("no tins", Cellars.withBatch(1, 5).daysUntilRecalled(0), -1);
        check.same("2 tins", Cellars.withTins(1, 5, 2).daysUntilRecalled(0), -1);
        check.same("3 tins", Cellars.withTins(1, 5, 3).daysUntilRecalled(0), 1);
        check.same("20 tins that lose nothing", Cellars.withTins(1, 0, 20).daysUntilRecalled(0), -1);
        TinCellar x = Cellars.withTins(2, 1, 2);
        x.pass(2);
        check.same("2 swelled, none left", x.daysUntilRecalled(0), -1);
        x.seal(0, 0, 1);
        check.same("2 swelled, one left", x.daysUntilRecalled(0), 2);
    }

    private static void untilRecalledWithShipping() {
        check.part("promise 29, 'if nothing is done by hand'");
        for (int many = 0; many <= 9; many++) {
            for (int tins = 1; tins <= 20; tins++) {
                TinCellar x = Cellars.withTins(2, 1, tins);
                x.setShipping(many, 1);
                int due = tins - many >= 3 ? 2 : -1;
                check.same(tins + " tins, " + many + " shipped ahead of the day 2", x.daysUntilRecalled(0), due);
            }
        }
        TinCellar first = Cellars.withTins(1, 1, 3);
        first.setShipping(9, 0);
        check.same("they swell ahead of the shipping of that day", first.daysUntilRecalled(0), 1);
    }

    private static void untilRecalledAsDaysGo() {
        check.part("promise 29, 'in how many days it is recalled'");
        for (Supplier<TinCellar> from : MANY) {
            for (int order = 0; order <= 2; order++) {
                for (int many = 0; many <= 3; many++) {
                    TinCellar x = from.get();
                    x.setShipping(many, order);
                    recallsOnTheirDays(x);
                }
            }
        }
    }

    private static void recallsOnTheirDays(TinCellar x) {
        int[] due = new int[x.batches()];
        for (int batch = 0; batch < due.length; batch++) {
            due[batch] = x.daysUntilRecalled(batch);
        }
        for (int days = 0; days <= 60; days++) {
            for (int batch = 0; batch < due.length; batch++) {
                boolean by = due[batch] != -1 && due[batch] <= days;
                check.same("isRecalled(" + batch + ") after " + days + " days", x.isRecalled(batch), by);
            }
            x.pass(1);
        }
    }

    // ---- 30

    private static void lostWithin30Days() {
        check.part("promise 30, 'within 30 days'");
        for (int vacuum = 1; vacuum <= 99; vacuum++) {
            check.same("2 of " + vacuum, Cellars.withTins(vacuum, 1, 2).lostWith(0, 0), vacuum <= 30 ? 2 : 0);
        }
        check.same("29 of 30, one a day", tinsOf(30, 29).lostWith(1, 0), 0);
        check.same("30 of 30, one a day: the last swells on the day 30", tinsOf(30, 30).lostWith(1, 0), 1);
        check.same("32 of 30, one a day: three swell on the day 30", tinsOf(30, 32).lostWith(1, 0), 3);
        check.same("60 of 31, one a day: none swells by the day 30", tinsOf(31, 60).lostWith(1, 0), 0);
        check.same("60 of 30", tinsOf(30, 60).lostWith(0, 0), 60);
    }

    private static TinCellar tinsOf(int vacuum, int many) {
        TinCellar x = Cellars.withBatch(vacuum, 1);
        for (int left = many; left > 0; left -= 20) {
            x.seal(0, 0, Math.min(20, left));
        }
        return x;
    }

    private static void lostNowDoNotCount() {
        check.part("promise 30, 'how many tins would be lost within 30 days'");
        TinCellar x = Cellars.busy();
        check.same("all 10 that are left", x.lostWith(0, 0), 10);
        x.recall(2);
        x.recall(3);
        check.same("the 3 that are left", x.lostWith(0, 0), 3);
        x.recall(4);
        check.same("none left", x.lostWith(0, 0), 0);
        check.same("none at all", new TinCellar().lostWith(0, 2), 0);
        TinCellar y = Cellars.withBatch(60, 0);
        y.setWarm(1, 2);
        y.seal(0, 0, 4);
        y.seal(0, 1, 3);
        check.same("3 that swell on the day 30, 4 by the recall of then", y.lostWith(0, 0), 7);
        check.same("recalls that come later", tinsOf(31, 60).lostWith(0, 0), 0);
    }

    private static void lostWithSoMany() {
        check.part("promise 30, 'if so many were shipped each day by this order', 'many is not 0 to 9'");
        for (int many = 0; many <= 9; many++) {
            TinCellar x = Cellars.withTins(2, 1, 20);
            x.setShipping(9 - many, 2);
            check.same(many + " of 20 ahead of the day 2", x.lostWith(many, 0), 20 - many);
        }
        int[] due = {0, 1, 1};
        for (int order = 0; order <= 2; order++) {
            for (int orderOfNow = 0; orderOfNow <= 2; orderOfNow++) {
                TinCellar x = threeKinds();
                x.setShipping(0, orderOfNow);
                check.same("lostWith(1, " + order + ")", x.lostWith(1, order), due[order]);
            }
        }
    }

    private static void lostWithAsDaysGo() {
        check.part("promise 30, 'how many tins would be lost'");
        for (Supplier<TinCellar> from : MANY) {
            for (int many = 0; many <= 9; many++) {
                for (int order = 0; order <= 2; order++) {
                    TinCellar x = inState(from, many % 3);
                    int said = x.lostWith(many, order);
                    int before = x.lost();
                    x.setShipping(many, order);
                    x.pass(30);
                    check.same("lostWith(" + many + ", " + order + ")", said, x.lost() - before);
                }
            }
        }
    }

    // ---- 31

    private static void bestOrderOfEach() {
        check.part("promise 31, 'the order with the smallest lostWith()'");
        TinCellar oldest = threeKinds();
        TinCellar weakest = Cellars.withBatch(99, 0);
        weakest.addBatch(4, 1);
        weakest.setWarm(1, 1);
        weakest.seal(0, 1, 5);
        weakest.seal(1, 0, 1);
        TinCellar warmest = Cellars.oneWarmBehind(1);
        for (int orderOfNow = 0; orderOfNow <= 2; orderOfNow++) {
            bestWithOne(oldest, orderOfNow, List.of(0, 1, 1), 0);
            bestWithOne(weakest, orderOfNow, List.of(1, 0, 1), 1);
            bestWithOne(warmest, orderOfNow, List.of(1, 1, 0), 2);
        }
    }

    private static void bestWithOne(TinCellar x, int orderOfNow, List<Integer> losses, int due) {
        x.setShipping(1, orderOfNow);
        check.same("losses with one a day", List.of(x.lostWith(1, 0), x.lostWith(1, 1), x.lostWith(1, 2)), losses);
        check.same("bestOrder() of the losses " + losses, x.bestOrder(), due);
    }

    private static void bestOrderOfSeveral() {
        check.part("promise 31, 'of several the smallest number'");
        check.same("without tins", new TinCellar().bestOrder(), 0);
        check.same("with none shipped", Cellars.oneWarmBehind(99).bestOrder(), 0);
        TinCellar weakBehind = Cellars.withBatch(4, 2);
        weakBehind.addBatch(1, 0);
        weakBehind.seal(0, 0, 1);
        weakBehind.seal(1, 0, 5);
        TinCellar warmBehind = Cellars.withBatch(4, 1);
        warmBehind.addBatch(99, 0);
        warmBehind.setWarm(1, 1);
        warmBehind.seal(0, 0, 1);
        warmBehind.seal(1, 1, 5);
        for (int orderOfNow = 0; orderOfNow <= 2; orderOfNow++) {
            bestWithOne(Cellars.oneWarmBehind(99), orderOfNow, List.of(1, 0, 0), 1);
            bestWithOne(weakBehind, orderOfNow, List.of(0, 1, 0), 0);
            bestWithOne(warmBehind, orderOfNow, List.of(0, 0, 1), 0);
            bestWithOne(Cellars.withTins(1, 1, 2), orderOfNow, List.of(2, 2, 2), 0);
        }
    }

    private static void bestOrderAsManyAsNow() {
        check.part("promise 31, 'as many shipped as now'");
        for (Supplier<TinCellar> from : MANY) {
            for (int many = 0; many <= 9; many++) {
                for (int order = 0; order <= 2; order++) {
                    TinCellar x = inState(from, many % 4);
                    x.setShipping(many, order);
                    int best = x.bestOrder();
                    for (int other = 0; other <= 2; other++) {
                        int gap = x.lostWith(many, other) - x.lostWith(many, best);
                        check.same("order " + best + " with " + many, other < best ? gap > 0 : gap >= 0, true);
                    }
                }
            }
        }
    }

    // ---- 32

    private static void wantedNone() {
        check.part("promise 32, 'how few tins a day, 0 to 9': 0");
        check.same("without tins", new TinCellar().shippingWanted(), 0);
        check.same("of tins that never swell", Cellars.withTins(1, 0, 20).shippingWanted(), 0);
        TinCellar x = Cellars.busy();
        for (int batch = 2; batch < 5; batch++) {
            x.recall(batch);
        }
        check.same("with all gone before", x.shippingWanted(), 0);
        x.setShipping(9, 0);
        check.same("with 9 shipped now", x.shippingWanted(), 0);
    }

    private static void wanted9() {
        check.part("promise 32, 'how few tins a day, 0 to 9': 1 to 9");
        for (int tins = 1; tins <= 9; tins++) {
            for (int order = 0; order <= 2; order++) {
                TinCellar x = Cellars.withTins(2, 1, tins);
                x.setShipping(9 - tins, order);
                check.same(tins + " to be gone in a day", x.shippingWanted(), tins);
            }
        }
        for (int tins = 41; tins <= 45; tins++) {
            check.same(tins + " to be gone in 5 days", tinsOf(6, tins).shippingWanted(), 9);
        }
        check.same("40 to be gone in 5 days", tinsOf(6, 40).shippingWanted(), 8);
    }

    private static void wantedMoreThan9() {
        check.part("promise 32, '-1 if 9 do not do'");
        check.same("10 to be gone in a day", Cellars.withTins(2, 1, 10).shippingWanted(), -1);
        check.same("46 to be gone in 5 days", tinsOf(6, 46).shippingWanted(), -1);
        check.same("one that swells on the first day", Cellars.withTins(1, 1, 1).shippingWanted(), -1);
        check.same("60 to be gone in 7 days", tinsOf(8, 60).shippingWanted(), 9);
        check.same("60 to be gone in 6 days", tinsOf(7, 60).shippingWanted(), -1);
    }

    private static void wantedByTheOrderOfNow() {
        check.part("promise 32, 'by the order of now'");
        int[] due = {1, 5, 6};
        TinCellar x = threeKinds();
        check.same("by the order of at first", x.shippingWanted(), 1);
        for (int order = 0; order <= 2; order++) {
            for (int many = 0; many <= 9; many++) {
                x.setShipping(many, order);
                check.same("by the order " + order + " with " + many, x.shippingWanted(), due[order]);
            }
        }
        for (Supplier<TinCellar> from : MANY) {
            for (int order = 0; order <= 2; order++) {
                TinCellar y = from.get();
                y.setShipping(order, order);
                int wanted = y.shippingWanted();
                for (int many = 0; many < (wanted == -1 ? 10 : wanted); many++) {
                    check.same(many + " do not do", y.lostWith(many, order) > 0, true);
                }
                check.same(wanted + " do", wanted == -1 || y.lostWith(wanted, order) == 0, true);
            }
        }
    }

    private static void wantedWithin30Days() {
        check.part("promise 32, 'so that none is lost within 30 days'");
        check.same("one that swells on the day 30", Cellars.withTins(30, 1, 1).shippingWanted(), 1);
        check.same("one that swells on the day 31", Cellars.withTins(31, 1, 1).shippingWanted(), 0);
        check.same("29 that swell on the day 30", tinsOf(30, 29).shippingWanted(), 1);
        check.same("30 that swell on the day 30", tinsOf(30, 30).shippingWanted(), 2);
        check.same("60 that swell on the day 31", tinsOf(31, 60).shippingWanted(), 0);
    }

    // ---- 33

    private static void warm(TinCellar x, int... warms) {
        for (int shelf = 0; shelf < 4; shelf++) {
            x.setWarm(shelf, warms[shelf]);
        }
    }

    private static void bestShelfNever() {
        check.part("promise 33, 'on which its lid swells the latest, or never'");
        TinCellar x = Cellars.withTins(99, 0, 1);
        warm(x, 1, 2, 3, 0);
        check.same("never on the shelf 3", x.bestShelf(0), 3);
        warm(x, 1, 0, 3, 0);
        check.same("never on the shelves 1 and 3", x.bestShelf(0), 1);
        warm(x, 3, 2, 1, 2);
        check.same("the latest on the shelf 2", x.bestShelf(0), 2);
        warm(x, 3, 3, 2, 1);
        check.same("the latest on the shelf 3", x.bestShelf(0), 3);
    }

    private static void bestShelfOfSeveral() {
        check.part("promise 33, 'of several the smallest number'");
        TinCellar x = Cellars.withBatch(5, 5);
        x.addBatch(6, 0);
        x.addBatch(7, 1);
        x.seal(0, 3, 1);
        x.seal(1, 3, 1);
        x.seal(2, 2, 1);
        for (int tin = 0; tin < 3; tin++) {
            check.same("bestShelf(" + tin + "), all cold", x.bestShelf(tin), 0);
        }
        warm(x, 3, 2, 1, 0);
        check.same("on the day 1 on each, for all its warmth", x.bestShelf(0), 0);
        warm(x, 3, 3, 2, 2);
        check.same("2 days and 3 days", x.bestShelf(1), 2);
        check.same("7 in 2 days by 4, in 3 days by 3", x.bestShelf(2), 2);
        warm(x, 3, 3, 3, 3);
        for (int tin = 0; tin < 3; tin++) {
            check.same("bestShelf(" + tin + "), all warm", x.bestShelf(tin), 0);
        }
    }

    private static void bestShelfOfAllWarmths() {
        check.part("promise 33, 'the shelf on which its lid swells the latest'");
        for (int warmths = 0; warmths < 256; warmths++) {
            TinCellar x = new TinCellar();
            int[][] kinds = {{1, 0}, {5, 0}, {99, 0}, {5, 1}, {99, 1}, {7, 5}};
            for (int tin = 0; tin < 6; tin++) {
                x.addBatch(kinds[tin][0], kinds[tin][1]);
                x.seal(tin, tin % 4, 1);
            }
            warm(x, warmths & 3, warmths >> 2 & 3, warmths >> 4 & 3, warmths >> 6);
            for (int tin = 0; tin < 6; tin++) {
                int said = x.bestShelf(tin);
                check.same("bestShelf(" + tin + ") of the warmths " + warmths, said, latestByMoving(x, tin));
            }
        }
    }

    private static int latestByMoving(TinCellar x, int tin) {
        int best = -1;
        int most = 0;
        for (int shelf = 0; shelf < 4; shelf++) {
            x.move(tin, shelf);
            int days = x.daysOf(tin) == -1 ? 1000 : x.daysOf(tin);
            if (days > most) {
                best = shelf;
                most = days;
            }
        }
        return best;
    }

    private static void bestShelfOfThoseGone() {
        check.part("promise 33, '-1 if it is not in the cellar'");
        TinCellar x = Cellars.busy();
        for (int tin = 0; tin < 20; tin++) {
            check.same("bestShelf(" + tin + ")", x.bestShelf(tin), tin < 10 ? -1 : 1);
        }
    }

    // ---- 34

    private static void meanWithoutAny() {
        check.part("promise 34, '0 without any'");
        TinCellar lost = Cellars.withTins(9, 0, 3);
        lost.recall(0);
        TinCellar shipped = Cellars.withTins(9, 0, 3);
        shipped.setShipping(3, 0);
        shipped.pass(1);
        for (TinCellar x : List.of(new TinCellar(), Cellars.withBatch(9, 0), lost, shipped)) {
            check.same("meanVacuum()", x.meanVacuum(), 0.0);
        }
    }

    private static void meanOfThoseInTheCellar() {
        check.part("promise 34, 'the mean vacuum of tins in the cellar'");
        check.same("of one of 1", Cellars.withTins(1, 0, 1).meanVacuum(), 1.0);
        check.same("of 60 of 99", tinsOf(99, 60).meanVacuum(), 99.0);
        check.same("of some", Cellars.busy().meanVacuum(), 16.3);
        TinCellar x = Cellars.withTins(1, 0, 2);
        x.addBatch(2, 0);
        x.seal(1, 0, 1);
        check.same("of 1, 1 and 2", x.meanVacuum(), 4.0 / 3);
        x.seal(1, 0, 4);
        check.same("of 1, 1, 2, 2, 2, 2 and 2", x.meanVacuum(), 12.0 / 7);
        x.setShipping(1, 0);
        x.pass(1);
        check.same("of 1, 2, 2, 2, 2 and 2", x.meanVacuum(), 11.0 / 6);
        x.recall(1);
        check.same("of 1", x.meanVacuum(), 1.0);
    }

    // ---- 35

    private static List<Integer> numbersOf(TinCellar x) {
        List<Integer> n = new ArrayList<>(List.of(x.day(), x.batches(), x.tins(), x.inCellar(), x.shipped(), x.lost(),
                x.swelled(), x.first(0), x.first(1), x.first(2)));
        n.addAll(List.of(x.bestOrder(), x.shippingWanted()));
        for (int shelf = 0; shelf < 4; shelf++) {
            n.addAll(List.of(x.standOn(shelf), x.warmOf(shelf)));
        }
        for (int b = 0; b < x.batches(); b++) {
            n.addAll(List.of(x.swelledOf(b), x.leftOf(b), x.isRecalled(b) ? 1 : 0, x.daysUntilRecalled(b)));
        }
        for (int t = 0; t < x.tins(); t++) {
            n.addAll(List.of(x.shelfOf(t), x.vacuumOf(t), x.isShipped(t) ? 1 : 0, x.placeBy(t, 1), x.daysOf(t)));
            n.add(x.bestShelf(t));
        }
        return n;
    }

    /** Without a limit of its own, and cut to 64 bits at the end. */
    private static BigInteger unbounded(List<Integer> numbers) {
        BigInteger d = BigInteger.valueOf(2351);
        for (int n : numbers) {
            d = d.multiply(BigInteger.valueOf(31)).add(BigInteger.valueOf(n));
        }
        return d;
    }

    private static void digestOfNew() {
        check.part("promise 35, 'starts with 2351': without batches and tins");
        List<Integer> due = List.of(0, 0, 0, 0, 0, 0, 0, -1, -1, -1, 0, 0, 0, 0, 0, 0, 0, 0, 0, 0);
        check.same("its numbers", numbersOf(new TinCellar()), due);
        check.same("digest()", new TinCellar().digest(), unbounded(due).longValue());
    }

    private static void digestWraps() {
        check.part("promise 35, 'which wraps around as a 64-bit integer'");
        for (Supplier<TinCellar> from : MANY) {
            TinCellar x = from.get();
            BigInteger d = unbounded(numbersOf(x));
            check.same("it is beyond 64 bits", d.bitLength() > 64, true);
            check.same("digest()", x.digest(), d.longValue());
        }
        boolean negative = false;
        boolean positive = false;
        for (Supplier<TinCellar> from : MANY) {
            negative |= from.get().digest() < 0;
            positive |= from.get().digest() > 0;
        }
        check.same("some wrap to numbers below 0 and some above", negative && positive, true);
    }

    private static void digestAsDaysGo() {
        check.part("promise 35, 'for each of the following numbers'");
        for (Supplier<TinCellar> from : MANY) {
            TinCellar x = from.get();
            for (int days = 0; days < 20; days++) {
                check.same("digest() on the day " + x.day(), x.digest(), unbounded(numbersOf(x)).longValue());
                x.setShipping(days % 4 == 3 ? 1 : 0, days % 3);
                x.pass(1);
            }
            if (x.batches() > 0 && !x.isRecalled(0)) {
                x.recall(0);
            }
            check.same("digest() with one recalled", x.digest(), unbounded(numbersOf(x)).longValue());
        }
    }
}
