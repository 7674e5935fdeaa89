/** A cellar of sealed tins. */
public final class TinCellar {
    private static final int SHELVES = 4;
    private static final int MOST_WARM = 3;
    private static final int MOST_BATCHES = 6;
    private static final int MOST_VACUUM = 99;
    private static final int MOST_LEAKS = 5;
    private static final int MOST_TINS = 60;
    private static final int MOST_SEALED_AT_ONCE = 20;
    private static final int SWELLED_TO_RECALL = 3;
    private static final int MOST_SHIPPED_A_DAY = 9;
    private static final int MOST_DAYS_PASSED = 60;
    private static final int DAYS_LOOKED_FOR_RECALL = 60;
    private static final int DAYS_LOOKED_FOR_LOSS = 30;

    private static final int OLDEST = 0;
    private static final int WEAKEST = 1;
    private static final int WARMEST = 2;

    private static final int IN_CELLAR = 1;
    private static final int SHIPPED = 2;
    private static final int LOST = 3;

    private static final long DIGEST_START = 2351;
    private static final long DIGEST_FACTOR = 31;

    private final Stock now;
    // Made once and used again by every call that asks what would be, so that no such call makes an object.
    private final Stock trial;

    public TinCellar() {
        now = new Stock();
        trial = new Stock();
    }

    // ---- batches, tins, shelves

    public int addBatch(int vacuum, int leaks) throws IllegalArgumentException, IllegalStateException {
        if (!isWithin(vacuum, 1, MOST_VACUUM) || !isWithin(leaks, 0, MOST_LEAKS)) {
            throw new IllegalArgumentException("vacuum is not 1 to 99, or leaks is not 0 to 5");
        }
        if (now.batchCount >= MOST_BATCHES) {
            throw new IllegalStateException("there are 6 batches");
        }
        return now.takeBatch(vacuum, leaks);
    }

    public int seal(int batch, int shelf, int many)
            throws IndexOutOfBoundsException, IllegalArgumentException, IllegalStateException {
        needBatch(batch);
        needShelf(shelf);
        if (!isWithin(many, 1, MOST_SEALED_AT_ONCE)) {
            throw new IllegalArgumentException("many is not 1 to 20");
        }
        if (now.tinCount + many > MOST_TINS || now.isBatchRecalled(batch)) {
            throw new IllegalStateException("there would be more than 60 tins, or the batch is recalled");
        }
        return now.takeTins(batch, shelf, many);
    }

    public int move(int tin, int shelf) throws IndexOutOfBoundsException, IllegalStateException {
        needTin(tin);
        needShelf(shelf);
        if (!now.holds(tin)) {
            throw new IllegalStateException("the tin is not in the cellar");
        }
        int before = now.shelf.get(tin);
        now.shelf.set(tin, shelf);
        return before;
    }

    public int setWarm(int shelf, int warm) throws IndexOutOfBoundsException, IllegalArgumentException {
        needShelf(shelf);
        if (!isWithin(warm, 0, MOST_WARM)) {
            throw new IllegalArgumentException("warm is not 0 to 3");
        }
        int before = now.warm.get(shelf);
        now.warm.set(shelf, warm);
        return before;
    }

    public int setShipping(int many, int order) throws IllegalArgumentException {
        needShipping(many, order);
        int before = now.shippedADay;
        now.shippedADay = many;
        now.order = order;
        return before;
    }

    public int recall(int batch) throws IndexOutOfBoundsException, IllegalStateException {
        needBatch(batch);
        if (now.isBatchRecalled(batch)) {
            throw new IllegalStateException("the batch is recalled already");
        }
        return now.recallBatch(batch);
    }

    public int pass(int days) throws IllegalArgumentException {
        if (!isWithin(days, 1, MOST_DAYS_PASSED)) {
            throw new IllegalArgumentException("days is not 1 to 60");
        }
        int before = now.countAt(SHIPPED);
        for (int i = 0; i < days; i++) {
            now.passDay();
        }
        return now.countAt(SHIPPED) - before;
    }

    // ---- the cellar

    public int day() {
        return now.day;
    }

    public int batches() {
        return now.batchCount;
    }

    public int tins() {
        return now.tinCount;
    }

    public int inCellar() {
        return now.countAt(IN_CELLAR);
    }

    public int shipped() {
        return now.countAt(SHIPPED);
    }

    public int lost() {
        return now.countAt(LOST);
    }

    public int swelled() {
        int sum = 0;
        for (int batch = 0; batch < now.batchCount; batch++) {
            sum += now.swelledLids.get(batch);
        }
        return sum;
    }

    public int standOn(int shelf) throws IndexOutOfBoundsException {
        needShelf(shelf);
        return now.countHeldWith(now.shelf, shelf);
    }

    public int warmOf(int shelf) throws IndexOutOfBoundsException {
        needShelf(shelf);
        return now.warm.get(shelf);
    }

    // ---- tins and batches

    public int batchOf(int tin) throws IndexOutOfBoundsException {
        needTin(tin);
        return now.batch.get(tin);
    }

    public int shelfOf(int tin) throws IndexOutOfBoundsException {
        needTin(tin);
        return now.holds(tin) ? now.shelf.get(tin) : -1;
    }

    public int vacuumOf(int tin) throws IndexOutOfBoundsException {
        needTin(tin);
        return now.vacuum.get(tin);
    }

    public boolean isShipped(int tin) throws IndexOutOfBoundsException {
        needTin(tin);
        return now.place.get(tin) == SHIPPED;
    }

    public boolean isLost(int tin) throws IndexOutOfBoundsException {
        needTin(tin);
        return now.place.get(tin) == LOST;
    }

    public int swelledOf(int batch) throws IndexOutOfBoundsException {
        needBatch(batch);
        return now.swelledLids.get(batch);
    }

    public int leftOf(int batch) throws IndexOutOfBoundsException {
        needBatch(batch);
        return now.countHeldWith(now.batch, batch);
    }

    public boolean isRecalled(int batch) throws IndexOutOfBoundsException {
        needBatch(batch);
        return now.isBatchRecalled(batch);
    }

    // ---- orders

    public int first(int order) throws IllegalArgumentException {
        needOrder(order);
        return now.firstBy(order);
    }

    public int placeBy(int tin, int order) throws IndexOutOfBoundsException, IllegalArgumentException {
        needTin(tin);
        needOrder(order);
        return now.holds(tin) ? now.countAheadOf(tin, order) : -1;
    }

    // ---- what would be

    public int daysOf(int tin) throws IndexOutOfBoundsException {
        needTin(tin);
        return now.holds(tin) ? now.daysToSwell(tin, now.shelf.get(tin)) : -1;
    }

    public int daysUntilRecalled(int batch) throws IndexOutOfBoundsException {
        needBatch(batch);
        if (now.isBatchRecalled(batch)) {
            return 0;
        }
        trial.copyFrom(now);
        for (int days = 1; days <= DAYS_LOOKED_FOR_RECALL; days++) {
            trial.passDay();
            if (trial.isBatchRecalled(batch)) {
                return days;
            }
        }
        return -1;
    }

    public int lostWith(int many, int order) throws IllegalArgumentException {
        needShipping(many, order);
        return lossBy(many, order);
    }

    public int bestOrder() {
        int best = OLDEST;
        int least = lossBy(now.shippedADay, OLDEST);
        for (int order = WEAKEST; order <= WARMEST; order++) {
            int loss = lossBy(now.shippedADay, order);
            if (loss < least) {
                best = order;
                least = loss;
            }
        }
        return best;
    }

    public int shippingWanted() {
        for (int many = 0; many <= MOST_SHIPPED_A_DAY; many++) {
            if (lossBy(many, now.order) == 0) {
                return many;
            }
        }
        return -1;
    }

    public int bestShelf(int tin) throws IndexOutOfBoundsException {
        needTin(tin);
        if (!now.holds(tin)) {
            return -1;
        }
        int best = 0;
        for (int shelf = 1; shelf < SHELVES; shelf++) {
            if (isLater(now.daysToSwell(tin, shelf), now.daysToSwell(tin, best))) {
                best = shelf;
            }
        }
        return best;
    }

    public double meanVacuum() {
        int held = now.countAt(IN_CELLAR);
        if (held == 0) {
            return 0;
        }
        return (double) now.vacuumHeld() / held;
    }

    public long digest() {
        // shippingWanted() is asked from here and not from a part: LANGUAGE.md's rule 11 bounds how deep calls go.
        long d = DIGEST_START;
        d = mix(d, day());
        d = mix(d, batches());
        d = mix(d, tins());
        d = mix(d, inCellar());
        d = mix(d, shipped());
        d = mix(d, lost());
        d = mix(d, swelled());
        for (int order = OLDEST; order <= WARMEST; order++) {
            d = mix(d, first(order));
        }
        d = mix(d, bestOrder());
        d = mix(d, shippingWanted());
        d = mixShelves(d);
        d = mixBatches(d);
        return mixTins(d);
    }

    private long mixShelves(long start) {
        long d = start;
        for (int shelf = 0; shelf < SHELVES; shelf++) {
            d = mix(d, standOn(shelf));
            d = mix(d, warmOf(shelf));
        }
        return d;
    }

    private long mixBatches(long start) {
        long d = start;
        for (int batch = 0; batch < now.batchCount; batch++) {
            d = mix(d, swelledOf(batch));
            d = mix(d, leftOf(batch));
            d = mix(d, isRecalled(batch) ? 1 : 0);
            d = mix(d, daysUntilRecalled(batch));
        }
        return d;
    }

    private long mixTins(long start) {
        long d = start;
        for (int tin = 0; tin < now.tinCount; tin++) {
            d = mix(d, shelfOf(tin));
            d = mix(d, vacuumOf(tin));
            d = mix(d, isShipped(tin) ? 1 : 0);
            d = mix(d, placeBy(tin, WEAKEST));
            d = mix(d, daysOf(tin));
            d = mix(d, bestShelf(tin));
        }
        return d;
    }

    private static long mix(long d, long x) {
        return d * DIGEST_FACTOR + x;
    }

    private int lossBy(int many, int order) {
        trial.copyFrom(now);
        trial.shippedADay = many;
        trial.order = order;
        for (int i = 0; i < DAYS_LOOKED_FOR_LOSS; i++) {
            trial.passDay();
        }
        return trial.countAt(LOST) - now.countAt(LOST);
    }

    /** Days count from 1, and -1 stands for never, which is later than any day. */
    private static boolean isLater(int days, int than) {
        return than != -1 && (days == -1 || days > than);
    }

    private static boolean isWithin(int x, int least, int most) {
        return x >= least && x <= most;
    }

    private static void needShelf(int shelf) {
        if (!isWithin(shelf, 0, SHELVES - 1)) {
            throw new IndexOutOfBoundsException("there is no such shelf");
        }
    }

    private void needBatch(int batch) {
        if (!isWithin(batch, 0, now.batchCount - 1)) {
            throw new IndexOutOfBoundsException("there is no such batch");
        }
    }

    private void needTin(int tin) {
        if (!isWithin(tin, 0, now.tinCount - 1)) {
            throw new IndexOutOfBoundsException("there was no such tin");
        }
    }

    private static void needOrder(int order) {
        if (!isWithin(order, OLDEST, WARMEST)) {
            throw new IllegalArgumentException("order is not 0 to 2");
        }
    }

    private static void needShipping(int many, int order) {
        if (!isWithin(many, 0, MOST_SHIPPED_A_DAY)) {
            throw new IllegalArgumentException("many is not 0 to 9");
        }
        needOrder(order);
    }

    /** Numbers in a row; a look beyond its ends answers 0, and a change there changes nothing. */
    private static final class Row {
        private final int[] cells;

        Row(int length) {
            cells = new int[Math.max(0, length)];
        }

        int get(int i) {
            return i >= 0 && i < cells.length ? cells[i] : 0;
        }

        void set(int i, int x) {
            if (i >= 0 && i < cells.length) {
                cells[i] = x;
            }
        }

        void copyFrom(Row other) {
            for (int i = 0; i < cells.length; i++) {
                cells[i] = other.get(i);
            }
        }
    }

    /** All that a day changes or needs, so that days can be tried out on a copy. */
    private static final class Stock {
        private final Row warm = new Row(SHELVES);

        private final Row vacuumAtFirst = new Row(MOST_BATCHES);
        private final Row leaks = new Row(MOST_BATCHES);
        private final Row swelledLids = new Row(MOST_BATCHES);
        private final Row recalled = new Row(MOST_BATCHES);
        private int batchCount;

        private final Row batch = new Row(MOST_TINS);
        private final Row shelf = new Row(MOST_TINS);
        private final Row vacuum = new Row(MOST_TINS);
        private final Row place = new Row(MOST_TINS);
        private int tinCount;

        private int shippedADay;
        private int order = OLDEST;
        private int day;

        void copyFrom(Stock other) {
            warm.copyFrom(other.warm);
            vacuumAtFirst.copyFrom(other.vacuumAtFirst);
            leaks.copyFrom(other.leaks);
            swelledLids.copyFrom(other.swelledLids);
            recalled.copyFrom(other.recalled);
            batchCount = other.batchCount;
            batch.copyFrom(other.batch);
            shelf.copyFrom(other.shelf);
            vacuum.copyFrom(other.vacuum);
            place.copyFrom(other.place);
            tinCount = other.tinCount;
            shippedADay = other.shippedADay;
            order = other.order;
            day = other.day;
        }

        int takeBatch(int vacuumOfIt, int leaksOfIt) {
            int number = batchCount;
            vacuumAtFirst.set(number, vacuumOfIt);
            leaks.set(number, leaksOfIt);
            batchCount++;
            return number;
        }

        int takeTins(int batchOfThem, int shelfOfThem, int many) {
            int number = tinCount;
            for (int i = 0; i < many; i++) {
                batch.set(tinCount, batchOfThem);
                shelf.set(tinCount, shelfOfThem);
                vacuum.set(tinCount, vacuumAtFirst.get(batchOfThem));
                place.set(tinCount, IN_CELLAR);
                tinCount++;
            }
            return number;
        }

        boolean holds(int tin) {
            return place.get(tin) == IN_CELLAR;
        }

        boolean isBatchRecalled(int number) {
            return recalled.get(number) != 0;
        }

        void passDay() {
            wearTins();
            recallSwelled();
            for (int i = 0; i < shippedADay; i++) {
                ship(firstBy(order));
            }
            day++;
        }

        private void wearTins() {
            for (int tin = 0; tin < tinCount; tin++) {
                if (holds(tin)) {
                    vacuum.set(tin, Math.max(0, vacuum.get(tin) - wearOn(tin, shelf.get(tin))));
                    if (vacuum.get(tin) == 0) {
                        swellLid(tin);
                    }
                }
            }
        }

        private void swellLid(int tin) {
            int number = batch.get(tin);
            swelledLids.set(number, swelledLids.get(number) + 1);
            place.set(tin, LOST);
        }

        private void recallSwelled() {
            for (int number = 0; number < batchCount; number++) {
                if (!isBatchRecalled(number) && swelledLids.get(number) >= SWELLED_TO_RECALL) {
                    recallBatch(number);
                }
            }
        }

        private void ship(int tin) {
            if (tin != -1) {
                place.set(tin, SHIPPED);
            }
        }

        int recallBatch(int number) {
            recalled.set(number, 1);
            int losses = 0;
            for (int tin = 0; tin < tinCount; tin++) {
                if (place.get(tin) == IN_CELLAR && batch.get(tin) == number) {
                    place.set(tin, LOST);
                    losses++;
                }
            }
            return losses;
        }

        int firstBy(int byOrder) {
            int found = -1;
            int least = 0;
            for (int tin = 0; tin < tinCount; tin++) {
                if (holds(tin)) {
                    int rank = rankBy(tin, byOrder);
                    if (found < 0 || rank < least) {
                        found = tin;
                        least = rank;
                    }
                }
            }
            return found;
        }

        int countAheadOf(int tin, int byOrder) {
            int rank = rankBy(tin, byOrder);
            int count = 0;
            for (int other = 0; other < tinCount; other++) {
                if (holds(other) && rankBy(other, byOrder) < rank) {
                    count++;
                }
            }
            return count;
        }

        /** No two tins have the same rank: the number of the tin settles what is alike. */
        private int rankBy(int tin, int byOrder) {
            if (byOrder == WEAKEST) {
                return vacuum.get(tin) * MOST_TINS + tin;
            }
            if (byOrder == WARMEST) {
                return (MOST_WARM - warm.get(shelf.get(tin))) * MOST_TINS + tin;
            }
            return tin;
        }

        private int wearOn(int tin, int onShelf) {
            return leaks.get(batch.get(tin)) + warm.get(onShelf);
        }

        /** In how many days the vacuum of a tin would be gone on a shelf; -1 if never. */
        int daysToSwell(int tin, int onShelf) {
            int wear = wearOn(tin, onShelf);
            if (wear <= 0) {
                return -1;
            }
            return (vacuum.get(tin) + wear - 1) / wear;
        }

        int countAt(int where) {
            int count = 0;
            for (int tin = 0; tin < tinCount; tin++) {
                if (place.get(tin) == where) {
                    count++;
                }
            }
            return count;
        }

        int countHeldWith(Row row, int x) {
            int count = 0;
            for (int tin = 0; tin < tinCount; tin++) {
                if (holds(tin) && row.get(tin) == x) {
                    count++;
                }
            }
            return count;
        }

        int vacuumHeld() {
            int sum = 0;
            for (int tin = 0; tin < tinCount; tin++) {
                if (holds(tin)) {
                    sum += vacuum.get(tin);
                }
            }
            return sum;
        }
    }
}
