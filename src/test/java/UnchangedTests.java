import java.util.List;
import java.util.function.Supplier;

/** Asking changes nothing: not what is answered next, nor how the cellar goes on. */
public final class UnchangedTests {
    private static final List<Supplier<TinCellar>> ALL = List.of(TinCellar::new, Cellars::busy, Cellars::full,
            Cellars::mixed, () -> Cellars.oneWarmBehind(1));

    private static final Check check = new Check();

    private interface AskNumber {
        Object of(TinCellar x, int number);
    }

    public static void main(String[] args) {
        theCellar();
        tinsAndBatches();
        orders();
        whatWouldBe();
        check.end();
    }

    private static void unchanged(Supplier<TinCellar> from, String what, Cellars.Act ask) {
        TinCellar x = from.get();
        Object first = ask.on(x);
        check.same(what + " again", ask.on(x), first);
        check.same("what follows " + what, Cellars.after(from, ask), Cellars.afterNothing(from));
    }

    private static void ofNone(int promise, String name, Cellars.Act ask) {
        check.part("promise " + promise);
        for (Supplier<TinCellar> from : ALL) {
            unchanged(from, name + "()", ask);
        }
    }

    private static void ofShelves(int promise, String name, AskNumber ask) {
        check.part("promise " + promise);
        for (Supplier<TinCellar> from : ALL) {
            for (int i = 0; i < 4; i++) {
                int shelf = i;
                unchanged(from, name + "(" + shelf + ")", x -> ask.of(x, shelf));
            }
        }
    }

    private static void ofBatches(int promise, String name, AskNumber ask) {
        check.part("promise " + promise);
        for (Supplier<TinCellar> from : ALL) {
            for (int i = 0; i < from.get().batches(); i++) {
                int batch = i;
                unchanged(from, name + "(" + batch + ")", x -> ask.of(x, batch));
            }
        }
    }

    private static void ofTins(int promise, String name, AskNumber ask) {
        check.part("promise " + promise);
        for (Supplier<TinCellar> from : ALL) {
            for (int i = 0; i < from.get().tins(); i += 3) {
                int tin = i;
                unchanged(from, name + "(" + tin + ")", x -> ask.of(x, tin));
            }
        }
    }

    private static void theCellar() {
        ofNone(9, "day", TinCellar::day);
        ofNone(10, "batches", TinCellar::batches);
        ofNone(11, "tins", TinCellar::tins);
        ofNone(12, "inCellar", TinCellar::inCellar);
        ofNone(13, "shipped", TinCellar::shipped);
        ofNone(14, "lost", TinCellar::lost);
        ofNone(15, "swelled", TinCellar::swelled);
        ofShelves(16, "standOn", TinCellar::standOn);
        ofShelves(17, "warmOf", TinCellar::warmOf);
    }

    private static void tinsAndBatches() {
        ofTins(18, "batchOf", TinCellar::batchOf);
        ofTins(19, "shelfOf", TinCellar::shelfOf);
        ofTins(20, "vacuumOf", TinCellar::vacuumOf);
        ofTins(21, "isShipped", TinCellar::isShipped);
        ofTins(22, "isLost", TinCellar::isLost);
        ofBatches(23, "swelledOf", TinCellar::swelledOf);
        ofBatches(24, "leftOf", TinCellar::leftOf);
        ofBatches(25, "isRecalled", TinCellar::isRecalled);
    }

    private static void orders() {
        for (int i = 0; i <= 2; i++) {
            int order = i;
            ofNone(26, "first", x -> x.first(order));
            ofTins(27, "placeBy", (x, tin) -> x.placeBy(tin, order));
        }
    }

    private static void whatWouldBe() {
        ofTins(28, "daysOf", TinCellar::daysOf);
        ofBatches(29, "daysUntilRecalled", TinCellar::daysUntilRecalled);
        for (int i = 0; i < 30; i++) {
            int many = i % 10;
            int order = i / 10;
            ofNone(30, "lostWith", x -> x.lostWith(many, order));
        }
        ofNone(31, "bestOrder", TinCellar::bestOrder);
        ofNone(32, "shippingWanted", TinCellar::shippingWanted);
        ofTins(33, "bestShelf", TinCellar::bestShelf);
        ofNone(34, "meanVacuum", TinCellar::meanVacuum);
        ofNone(35, "digest", TinCellar::digest);
    }
}
