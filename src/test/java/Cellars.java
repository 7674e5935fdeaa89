import java.util.ArrayList;
import java.util.List;
import java.util.function.Supplier;
import java.util.stream.IntStream;

/** Cellars to start from, and all that a cellar answers. */
final class Cellars {
    /** Far numbers, and ones that a mask or a cast would let in. */
    private static final int[] FAR = {Integer.MIN_VALUE, Integer.MIN_VALUE + 1, -65536, -256, -61, -2, -1,
        64, 128, 256, 65536, 1 << 24, 1 << 30, Integer.MAX_VALUE - 1, Integer.MAX_VALUE};

    private Cellars() {
    }

    /** The next numbers on each side of those that are allowed, and far ones. */
    static int[] outside(int least, int most) {
        IntStream next = IntStream.of(least - 1, most + 1, most + 2);
        return IntStream.concat(next, IntStream.of(FAR)).filter(x -> x < least || x > most).toArray();
    }

    static TinCellar withBatch(int vacuum, int leaks) {
        TinCellar x = new TinCellar();
        x.addBatch(vacuum, leaks);
        return x;
    }

    /** Of one batch, on the shelf 0. */
    static TinCellar withTins(int vacuum, int leaks, int many) {
        TinCellar x = withBatch(vacuum, leaks);
        x.seal(0, 0, many);
        return x;
    }

    /** Tins 0 and 1 of the batch 0 (8, 1), 2 and 3 of 1 (5, 0), 4 of 2 (20, 2), on the shelves 0, 1 and 3. */
    static TinCellar mixed() {
        TinCellar x = new TinCellar();
        x.addBatch(8, 1);
        x.addBatch(5, 0);
        x.addBatch(20, 2);
        x.setWarm(1, 2);
        x.setWarm(3, 3);
        x.seal(0, 0, 2);
        x.seal(1, 1, 2);
        x.seal(2, 3, 1);
        return x;
    }

    /** 6 batches, 60 tins, 15 on each shelf; the batches 1 to 5 leak as much as their number. */
    static TinCellar full() {
        TinCellar x = new TinCellar();
        for (int batch = 0; batch < 6; batch++) {
            x.addBatch(99 - 9 * batch, batch);
        }
        for (int tins = 0; tins < 60; tins += 5) {
            x.seal(tins / 5 % 6, tins / 5 % 4, 5);
        }
        x.setWarm(1, 1);
        x.setWarm(2, 2);
        x.setWarm(3, 3);
        x.setShipping(2, 2);
        return x;
    }

    /**
     * The day 2, with one tin a day shipped by its vacuum from now on. Batch 0 was recalled as the tins 0 to 2 swelled,
     * which lost the tin 3; batch 1 was recalled by hand, which lost the tin 4; the tins 5 to 8 of batch 2 were
     * shipped; tin 9 of batch 3 swelled; the tins 10 to 19 of the batches 2 to 4 are in the cellar.
     */
    static TinCellar busy() {
        TinCellar x = new TinCellar();
        x.addBatch(3, 1);
        x.addBatch(40, 0);
        x.addBatch(30, 1);
        x.addBatch(4, 0);
        x.addBatch(25, 2);
        x.setWarm(2, 3);
        x.seal(0, 2, 3);
        x.seal(0, 0, 1);
        x.seal(1, 1, 1);
        x.seal(2, 1, 4);
        x.seal(3, 2, 1);
        x.seal(2, 3, 3);
        x.seal(3, 0, 4);
        x.seal(4, 3, 3);
        x.recall(1);
        x.setShipping(2, 0);
        x.pass(2);
        x.setShipping(1, 1);
        x.setWarm(0, 1);
        x.setWarm(3, 2);
        return x;
    }

    /** Five tins that never swell, and one behind them, on a warm shelf, that swells on the fourth day. */
    static TinCellar oneWarmBehind(int vacuumOfFive) {
        TinCellar x = withBatch(vacuumOfFive, 0);
        x.addBatch(10, 0);
        x.setWarm(1, 3);
        x.seal(0, 0, 5);
        x.seal(1, 1, 1);
        return x;
    }

    /** All that the face answers of a cellar. What is shipped each day shows in what would be. */
    static List<Object> view(TinCellar x) {
        List<Object> seen = new ArrayList<>(List.of(x.day(), x.batches(), x.tins(), x.inCellar(), x.shipped(),
                x.lost(), x.swelled(), x.bestOrder(), x.shippingWanted(), x.meanVacuum(), x.digest()));
        for (int shelf = 0; shelf < 4; shelf++) {
            seen.addAll(List.of(x.standOn(shelf), x.warmOf(shelf)));
        }
        for (int order = 0; order < 3; order++) {
            seen.add(x.first(order));
            for (int many = 0; many < 10; many++) {
                seen.add(x.lostWith(many, order));
            }
        }
        for (int batch = 0; batch < x.batches(); batch++) {
            seen.addAll(List.of(x.swelledOf(batch), x.leftOf(batch), x.isRecalled(batch), x.daysUntilRecalled(batch)));
        }
        for (int tin = 0; tin < x.tins(); tin++) {
            seen.addAll(List.of(x.batchOf(tin), x.shelfOf(tin), x.vacuumOf(tin), x.isShipped(tin), x.isLost(tin)));
            seen.addAll(List.of(x.placeBy(tin, 0), x.placeBy(tin, 1), x.placeBy(tin, 2), x.daysOf(tin)));
            seen.add(x.bestShelf(tin));
        }
        return seen;
    }

    /** What a cellar holds, told without a call that tries days out. */
    private static List<Object> holding(TinCellar x) {
        List<Object> seen = new ArrayList<>(List.of(x.day(), x.inCellar(), x.shipped(), x.lost(), x.swelled()));
        for (int tin = 0; tin < x.tins(); tin++) {
            seen.addAll(List.of(x.shelfOf(tin), x.vacuumOf(tin), x.isShipped(tin), x.placeBy(tin, 2)));
        }
        return seen;
    }

    /** How a cellar goes on, so that what no call answers at once shows too. */
    private static List<Object> course(TinCellar x) {
        List<Object> seen = new ArrayList<>();
        for (int days = 0; days < 2; days++) {
            seen.add(x.pass(1));
            seen.addAll(holding(x));
        }
        seen.add(x.setShipping(1, 2));
        for (int shelf = 0; shelf < 4; shelf++) {
            seen.add(x.setWarm(shelf, 3 - shelf));
        }
        seen.add(Check.outcome(() -> x.addBatch(9, 1)));
        for (int batch = 0; batch < 6; batch++) {
            int of = batch;
            seen.add(Check.outcome(() -> x.seal(of, 1, 1)));
        }
        seen.add(x.pass(1));
        seen.addAll(holding(x));
        seen.addAll(view(x));
        return seen;
    }

    interface Act {
        Object on(TinCellar x);
    }

    /**
     * All that a cellar answers after a call, and how another one, made the same way, goes on after it: two of them,
     * since a call that tries days out could set right, or hide, what the call did.
     */
    static List<Object> after(Supplier<TinCellar> from, Act act) {
        TinCellar seen = from.get();
        Check.outcome(() -> act.on(seen));
        TinCellar driven = from.get();
        Check.outcome(() -> act.on(driven));
        List<Object> all = view(seen);
        all.addAll(course(driven));
        return all;
    }

    static List<Object> afterNothing(Supplier<TinCellar> from) {
        return after(from, x -> 0);
    }
}
