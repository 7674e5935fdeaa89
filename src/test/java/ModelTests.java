import java.util.ArrayList;
import java.util.Comparator;
import java.util.List;

/** Long runs of calls, right and wrong ones, each answer held against a second cellar written in another way. */
public final class ModelTests {
    private static final int RUNS = 400;
    private static final int CALLS = 512;

    private static final Check check = new Check();

    public static void main(String[] args) {
        for (int run = 0; run < RUNS; run++) {
            run(run);
        }
        check.end();
    }

    private static void run(int run) {
        check.part("run " + run);
        Dice dice = new Dice(run);
        TinCellar x = new TinCellar();
        Model model = new Model();
        for (int call = 0; call < CALLS; call++) {
            String name = dice.pick(run % 2 == 0 ? EARLY : ALL);
            int[] a = arguments(dice, name, model);
            check.answers("call " + call + " " + name + java.util.Arrays.toString(a), () -> ask(x, name, a),
                    Check.outcome(() -> ask(model, name, a)));
        }
        check.same("digest() at the end", x.digest(), model.digest());
    }

    private static final String[] ALL = {"addBatch", "addBatch", "seal", "seal", "seal", "move", "move", "setWarm",
        "setShipping", "recall", "pass", "pass", "day", "batches", "tins", "inCellar", "shipped", "lost", "swelled",
        "standOn", "warmOf", "batchOf", "shelfOf", "vacuumOf", "isShipped", "isLost", "swelledOf", "leftOf",
        "isRecalled", "first", "placeBy", "daysOf", "daysUntilRecalled", "lostWith", "bestOrder", "shippingWanted",
        "bestShelf", "meanVacuum", "digest"};

    /** Without recall(), and with fewer days, so that the cellar stays full for longer. */
    private static final String[] EARLY = {"addBatch", "seal", "move", "setWarm", "setShipping", "passOne", "tins",
        "inCellar", "shipped", "lost", "swelled", "standOn", "shelfOf", "vacuumOf", "isShipped", "isLost",
        "swelledOf", "leftOf", "isRecalled", "first", "placeBy", "placeBy", "daysOf", "daysUntilRecalled",
        "daysUntilRecalled", "lostWith", "lostWith", "bestOrder", "shippingWanted", "bestShelf", "meanVacuum",
        "digest"};

    private static int[] arguments(Dice dice, String name, Model model) {
        int batch = dice.near(0, model.batches.size() - 1);
        int shelf = dice.near(0, 3);
        int tin = dice.near(0, model.tins.size() - 1);
        switch (name) {
            case "addBatch": return new int[] {dice.near(1, dice.below(3) == 0 ? 99 : 30), dice.near(0, 5)};
            case "seal": return new int[] {batch, shelf, dice.near(1, dice.below(4) == 0 ? 20 : 5)};
            case "move": return new int[] {tin, shelf};
            case "setWarm": return new int[] {shelf, dice.near(0, 3)};
            case "setShipping": return new int[] {dice.near(0, dice.below(2) == 0 ? 1 : 9), dice.near(0, 2)};
            case "lostWith": return new int[] {dice.near(0, 9), dice.near(0, 2)};
            case "pass": return new int[] {dice.near(1, dice.below(10) == 0 ? 60 : 3)};
            case "placeBy": return new int[] {tin, dice.near(0, 2)};
            case "first": return new int[] {dice.near(0, 2)};
            case "recall": case "swelledOf": case "leftOf": case "isRecalled": case "daysUntilRecalled":
                return new int[] {batch};
            case "standOn": case "warmOf": return new int[] {shelf};
            default: return new int[] {tin};
        }
    }

    private static Object ask(TinCellar x, String name, int[] a) {
        switch (name) {
            case "addBatch": return x.addBatch(a[0], a[1]);
            case "seal": return x.seal(a[0], a[1], a[2]);
            case "move": return x.move(a[0], a[1]);
            case "setWarm": return x.setWarm(a[0], a[1]);
            case "setShipping": return x.setShipping(a[0], a[1]);
            case "recall": return x.recall(a[0]);
            case "pass": return x.pass(a[0]);
            case "passOne": return x.pass(1);
            case "day": return x.day();
            case "batches": return x.batches();
            case "tins": return x.tins();
            case "inCellar": return x.inCellar();
            case "shipped": return x.shipped();
            case "lost": return x.lost();
            case "swelled": return x.swelled();
            case "standOn": return x.standOn(a[0]);
            case "warmOf": return x.warmOf(a[0]);
            case "batchOf": return x.batchOf(a[0]);
            case "shelfOf": return x.shelfOf(a[0]);
            case "vacuumOf": return x.vacuumOf(a[0]);
            case "isShipped": return x.isShipped(a[0]);
            case "isLost": return x.isLost(a[0]);
            case "swelledOf": return x.swelledOf(a[0]);
            case "leftOf": return x.leftOf(a[0]);
            case "isRecalled": return x.isRecalled(a[0]);
            case "first": return x.first(a[0]);
            case "placeBy": return x.placeBy(a[0], a[1]);
            case "daysOf": return x.daysOf(a[0]);
            case "daysUntilRecalled": return x.daysUntilRecalled(a[0]);
            case "lostWith": return x.lostWith(a[0], a[1]);
            case "bestOrder": return x.bestOrder();
            case "shippingWanted": return x.shippingWanted();
            case "bestShelf": return x.bestShelf(a[0]);
            case "meanVacuum": return x.meanVacuum();
            default: return x.digest();
        }
    }

    private static Object ask(Model x, String name, int[] a) {
        switch (name) {
            case "addBatch": return x.addBatch(a[0], a[1]);
            case "seal": return x.seal(a[0], a[1], a[2]);
            case "move": return x.move(a[0], a[1]);
            case "setWarm": return x.setWarm(a[0], a[1]);
            case "setShipping": return x.setShipping(a[0], a[1]);
            case "recall": return x.recall(a[0]);
            case "pass": return x.pass(a[0]);
            case "passOne": return x.pass(1);
            case "day": return x.day;
            case "batches": return x.batches.size();
            case "tins": return x.tins.size();
            case "inCellar": return x.held().size();
            case "shipped": return x.count(Where.SHIPPED);
            case "lost": return x.count(Where.LOST);
            case "swelled": return x.batches.stream().mapToInt(b -> b.swelled).sum();
            case "standOn": return x.standOn(x.shelf(a[0]));
            case "warmOf": return x.warm[x.shelf(a[0])];
            case "batchOf": return x.batches.indexOf(x.tin(a[0]).batch);
            case "shelfOf": return x.shelfOf(x.tin(a[0]));
            case "vacuumOf": return x.tin(a[0]).vacuum;
            case "isShipped": return x.tin(a[0]).where == Where.SHIPPED;
            case "isLost": return x.tin(a[0]).where == Where.LOST;
            case "swelledOf": return x.batch(a[0]).swelled;
            case "leftOf": return x.leftOf(x.batch(a[0]));
            case "isRecalled": return x.batch(a[0]).recalled;
            case "first": return x.first(a[0]);
            case "placeBy": return x.placeBy(a[0], a[1]);
            case "daysOf": return x.daysOf(a[0]);
            case "daysUntilRecalled": return x.daysUntilRecalled(a[0]);
            case "lostWith": return x.lostWith(a[0], a[1]);
            case "bestOrder": return x.bestOrder();
            case "shippingWanted": return x.shippingWanted();
            case "bestShelf": return x.bestShelf(a[0]);
            case "meanVacuum": return x.held().stream().mapToInt(t -> t.vacuum).average().orElse(0);
            default: return x.digest();
        }
    }

    /** The same throws in every run of the tests: a row of numbers made from a seed. */
    private static final class Dice {
        private long state;

        Dice(long seed) {
            state = seed * 7919 + 17;
            below(2);
        }

        int below(int n) {
            state = state * 6364136223846793005L + 1442695040888963407L;
            return (int) Long.remainderUnsigned(state >>> 33, n);
        }

        String pick(String[] names) {
            return names[below(names.length)];
        }

        /** Mostly between the two, at times just beyond, at times far. */
        int near(int least, int most) {
            int[] beyond = {least - 1, most + 1, Integer.MIN_VALUE, Integer.MAX_VALUE};
            if (most < least || below(20) == 0) {
                return beyond[below(beyond.length)];
            }
            return least + below(most - least + 1);
        }
    }

    private enum Where { CELLAR, SHIPPED, LOST }

    private static final class Batch {
        final int vacuum;
        final int leaks;
        int swelled;
        boolean recalled;

        Batch(int vacuum, int leaks) {
            this.vacuum = vacuum;
            this.leaks = leaks;
        }
    }

    private static final class Tin {
        final int number;
        final Batch batch;
        int shelf;
        int vacuum;
        Where where = Where.CELLAR;

        Tin(int number, Batch batch, int shelf, int vacuum) {
            this.number = number;
            this.batch = batch;
            this.shelf = shelf;
            this.vacuum = vacuum;
        }
    }

    private static final class Model {
        final List<Batch> batches = new ArrayList<>();
        final List<Tin> tins = new ArrayList<>();
        final int[] warm = new int[4];
        int many;
        int order;
        int day;

        Model copy() {
            Model c = new Model();
            for (Batch b : batches) {
                Batch d = new Batch(b.vacuum, b.leaks);
                d.swelled = b.swelled;
                d.recalled = b.recalled;
                c.batches.add(d);
            }
            for (Tin t : tins) {
                Tin u = new Tin(t.number, c.batches.get(batches.indexOf(t.batch)), t.shelf, t.vacuum);
                u.where = t.where;
                c.tins.add(u);
            }
            System.arraycopy(warm, 0, c.warm, 0, 4);
            c.many = many;
            c.order = order;
            c.day = day;
            return c;
        }

        static void demand(boolean holds, RuntimeException otherwise) {
            if (!holds) {
                throw otherwise;
            }
        }

        int shelf(int s) {
            demand(s >= 0 && s < 4, new IndexOutOfBoundsException());
            return s;
        }

        Batch batch(int b) {
            demand(b >= 0 && b < batches.size(), new IndexOutOfBoundsException());
            return batches.get(b);
        }

        Tin tin(int t) {
            demand(t >= 0 && t < tins.size(), new IndexOutOfBoundsException());
            return tins.get(t);
        }

        int addBatch(int vacuum, int leaks) {
            demand(vacuum >= 1 && vacuum <= 99 && leaks >= 0 && leaks <= 5, new IllegalArgumentException());
            demand(batches.size() < 6, new IllegalStateException());
            batches.add(new Batch(vacuum, leaks));
            return batches.size() - 1;
        }

        int seal(int b, int s, int n) {
            Batch of = batch(b);
            shelf(s);
            demand(n >= 1 && n <= 20, new IllegalArgumentException());
            demand(tins.size() + n <= 60 && !of.recalled, new IllegalStateException());
            for (int i = 0; i < n; i++) {
                tins.add(new Tin(tins.size(), of, s, of.vacuum));
            }
            return tins.size() - n;
        }

        int move(int t, int s) {
            Tin it = tin(t);
            shelf(s);
            demand(it.where == Where.CELLAR, new IllegalStateException());
            int before = it.shelf;
            it.shelf = s;
            return before;
        }

        int setWarm(int s, int w) {
            shelf(s);
            demand(w >= 0 && w <= 3, new IllegalArgumentException());
            int before = warm[s];
            warm[s] = w;
            return before;
        }

        int setShipping(int n, int o) {
            demand(n >= 0 && n <= 9 && o >= 0 && o <= 2, new IllegalArgumentException());
            int before = many;
            many = n;
            order = o;
            return before;
        }

        int recall(int b) {
            Batch it = batch(b);
            demand(!it.recalled, new IllegalStateException());
            return lose(it);
        }

        private int lose(Batch b) {
            b.recalled = true;
            int n = 0;
            for (Tin t : held()) {
                if (t.batch == b) {
                    t.where = Where.LOST;
                    n++;
                }
            }
            return n;
        }

        int pass(int days) {
            demand(days >= 1 && days <= 60, new IllegalArgumentException());
            int n = 0;
            for (int i = 0; i < days; i++) {
                n += oneDay();
            }
            return n;
        }

        private int oneDay() {
            for (Tin t : held()) {
                t.vacuum = Math.max(0, t.vacuum - t.batch.leaks - warm[t.shelf]);
                if (t.vacuum == 0) {
                    t.where = Where.LOST;
                    t.batch.swelled++;
                }
            }
            batches.stream().filter(b -> !b.recalled && b.swelled >= 3).forEach(this::lose);
            List<Tin> line = held();
            line.sort(by(order));
            List<Tin> gone = line.subList(0, Math.min(many, line.size()));
            gone.forEach(t -> t.where = Where.SHIPPED);
            day++;
            return gone.size();
        }

        List<Tin> held() {
            List<Tin> in = new ArrayList<>(tins);
            in.removeIf(t -> t.where != Where.CELLAR);
            return in;
        }

        int count(Where where) {
            return (int) tins.stream().filter(t -> t.where == where).count();
        }

        int standOn(int s) {
            return (int) held().stream().filter(t -> t.shelf == s).count();
        }

        int leftOf(Batch b) {
            return (int) held().stream().filter(t -> t.batch == b).count();
        }

        int shelfOf(Tin t) {
            return t.where == Where.CELLAR ? t.shelf : -1;
        }

        private Comparator<Tin> by(int o) {
            Comparator<Tin> oldest = Comparator.comparingInt(t -> t.number);
            Comparator<Tin> weakest = Comparator.comparingInt(t -> t.vacuum);
            Comparator<Tin> warmest = Comparator.comparingInt(t -> -warm[t.shelf]);
            return o == 0 ? oldest : o == 1 ? weakest.thenComparing(oldest) : warmest.thenComparing(oldest);
        }

        private List<Tin> line(int o) {
            demand(o >= 0 && o <= 2, new IllegalArgumentException());
            List<Tin> line = held();
            line.sort(by(o));
            return line;
        }

        int first(int o) {
            List<Tin> line = line(o);
            return line.isEmpty() ? -1 : line.get(0).number;
        }

        int placeBy(int t, int o) {
            Tin it = tin(t);
            return line(o).indexOf(it);
        }

        /** A run of days with this tin alone; none lasts longer than its 99 of vacuum. */
        private int daysOn(Tin it, int s) {
            int left = it.vacuum;
            for (int days = 1; days <= 99; days++) {
                left -= it.batch.leaks + warm[s];
                if (left <= 0) {
                    return days;
                }
            }
            return -1;
        }

        int daysOf(int t) {
            Tin it = tin(t);
            return it.where == Where.CELLAR ? daysOn(it, it.shelf) : -1;
        }

        int daysUntilRecalled(int b) {
            batch(b);
            Model c = copy();
            for (int days = 0; days <= 60; days++) {
                if (c.batch(b).recalled) {
                    return days;
                }
                c.oneDay();
            }
            return -1;
        }

        int lostWith(int n, int o) {
            Model c = copy();
            c.setShipping(n, o);
            c.pass(30);
            return c.count(Where.LOST) - count(Where.LOST);
        }

        int bestOrder() {
            int[] losses = {lostWith(many, 0), lostWith(many, 1), lostWith(many, 2)};
            int least = Math.min(losses[0], Math.min(losses[1], losses[2]));
            return losses[0] == least ? 0 : losses[1] == least ? 1 : 2;
        }

        int shippingWanted() {
            for (int n = 0; n < 10; n++) {
                if (lostWith(n, order) == 0) {
                    return n;
                }
            }
            return -1;
        }

        int bestShelf(int t) {
            Tin it = tin(t);
            if (it.where != Where.CELLAR) {
                return -1;
            }
            int[] days = new int[4];
            int most = 0;
            for (int s = 0; s < 4; s++) {
                int d = daysOn(it, s);
                days[s] = d == -1 ? 1000 : d;
                most = Math.max(most, days[s]);
            }
            for (int s = 0; s < 4; s++) {
                if (days[s] == most) {
                    return s;
                }
            }
            throw new AssertionError();
        }

        long digest() {
            List<Integer> n = new ArrayList<>(List.of(day, batches.size(), tins.size(), held().size(),
                    count(Where.SHIPPED), count(Where.LOST), batches.stream().mapToInt(b -> b.swelled).sum()));
            n.addAll(List.of(first(0), first(1), first(2), bestOrder(), shippingWanted()));
            for (int s = 0; s < 4; s++) {
                n.addAll(List.of(standOn(s), warm[s]));
            }
            for (int b = 0; b < batches.size(); b++) {
                Batch it = batches.get(b);
                n.addAll(List.of(it.swelled, leftOf(it), it.recalled ? 1 : 0, daysUntilRecalled(b)));
            }
            for (Tin t : tins) {
                n.addAll(List.of(shelfOf(t), t.vacuum, t.where == Where.SHIPPED ? 1 : 0, placeBy(t.number, 1)));
                n.addAll(List.of(daysOf(t.number), bestShelf(t.number)));
            }
            long d = 2351;
            for (int x : n) {
                d = d * 31 + x;
            }
            return d;
        }
    }
}
