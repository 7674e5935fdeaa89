import java.util.ArrayList;
import java.util.List;

/** Each promise of the document by examples worked out by hand: ordinary inputs, edges, wrong inputs. */
public final class PromiseTests {
    private static final int[] FAR = {Integer.MIN_VALUE, -2, -1, 60, 61, 1000, Integer.MAX_VALUE};

    private static final Check check = new Check();

    public static void main(String[] args) {
        promise1();
        promise2();
        promise3();
        promise4();
        promise5();
        promise6();
        promise7();
        promise8();
        promises9To15();
        promise16();
        promise17();
        promise18();
        promise19();
        promise20();
        promises21And22();
        promise23();
        promise24();
        promise25();
        promise26();
        promise27();
        promise28();
        promise29();
        promise30();
        promise31();
        promise32();
        promise33();
        promise34();
        promise35();
        check.end();
    }

    // ---- batches, tins, shelves

    private static void promise1() {
        check.part("promise 1");
        TinCellar x = new TinCellar();
        check.same("day()", x.day(), 0);
        check.same("batches()", x.batches(), 0);
        check.same("tins()", x.tins(), 0);
        check.same("inCellar()", x.inCellar(), 0);
        check.same("shipped()", x.shipped(), 0);
        check.same("lost()", x.lost(), 0);
        check.same("swelled()", x.swelled(), 0);
        for (int shelf = 0; shelf < 4; shelf++) {
            check.same("warmOf(" + shelf + ")", x.warmOf(shelf), 0);
            check.same("standOn(" + shelf + ")", x.standOn(shelf), 0);
        }
        check.same("setShipping() before", x.setShipping(0, 0), 0);
        TinCellar other = Cellars.mixed();
        other.pass(2);
        check.same("another object's day", x.day(), 0);
        check.same("another object's tins", x.tins(), 0);
    }

    private static void promise2() {
        check.part("promise 2");
        TinCellar x = new TinCellar();
        check.same("addBatch(1, 0)", x.addBatch(1, 0), 0);
        check.same("addBatch(99, 5)", x.addBatch(99, 5), 1);
        List<Object> before = Cellars.view(x);
        for (int vacuum : new int[] {Integer.MIN_VALUE, -1, 0, 100, Integer.MAX_VALUE}) {
            check.illegalArgument("addBatch(" + vacuum + ", 0)", () -> x.addBatch(vacuum, 0));
        }
        for (int leaks : new int[] {Integer.MIN_VALUE, -1, 6, Integer.MAX_VALUE}) {
            check.illegalArgument("addBatch(1, " + leaks + ")", () -> x.addBatch(1, leaks));
        }
        check.same("what a wrong call leaves", Cellars.view(x), before);
        for (int batch = 2; batch < 6; batch++) {
            check.same("addBatch(50, 3)", x.addBatch(50, 3), batch);
        }
        before = Cellars.view(x);
        check.illegalState("a seventh batch", () -> x.addBatch(50, 3));
        check.illegalArgument("a seventh batch of no vacuum", () -> x.addBatch(0, 3));
        check.illegalArgument("a seventh batch that leaks 6", () -> x.addBatch(50, 6));
        check.same("what a seventh batch leaves", Cellars.view(x), before);
        x.seal(0, 0, 1);
        x.seal(1, 0, 1);
        check.same("vacuum of the batch 0", x.vacuumOf(0), 1);
        check.same("vacuum of the batch 1", x.vacuumOf(1), 99);
        x.pass(1);
        check.same("a day's leak of the batch 0", x.vacuumOf(0), 1);
        check.same("a day's leak of the batch 1", x.vacuumOf(1), 94);
    }

    private static void promise3() {
        check.part("promise 3");
        TinCellar x = Cellars.withBatch(30, 1);
        x.addBatch(40, 0);
        check.same("seal(0, 2, 1)", x.seal(0, 2, 1), 0);
        check.same("seal(1, 3, 20)", x.seal(1, 3, 20), 1);
        check.same("seal(0, 0, 3)", x.seal(0, 0, 3), 21);
        check.same("tins()", x.tins(), 24);
        check.same("shelfOf(0)", x.shelfOf(0), 2);
        check.same("shelfOf(20)", x.shelfOf(20), 3);
        check.same("batchOf(20)", x.batchOf(20), 1);
        check.same("batchOf(21)", x.batchOf(21), 0);
        check.same("vacuumOf(20)", x.vacuumOf(20), 40);
        check.same("vacuumOf(21)", x.vacuumOf(21), 30);
        List<Object> before = Cellars.view(x);
        for (int batch : new int[] {Integer.MIN_VALUE, -1, 2, 6, Integer.MAX_VALUE}) {
            check.outOfBounds("seal(" + batch + ", 0, 1)", () -> x.seal(batch, 0, 1));
            check.outOfBounds("seal(" + batch + ", 0, 0)", () -> x.seal(batch, 0, 0));
        }
        for (int shelf : new int[] {Integer.MIN_VALUE, -1, 4, Integer.MAX_VALUE}) {
            check.outOfBounds("seal(0, " + shelf + ", 1)", () -> x.seal(0, shelf, 1));
            check.outOfBounds("seal(0, " + shelf + ", 21)", () -> x.seal(0, shelf, 21));
        }
        for (int many : new int[] {Integer.MIN_VALUE, -1, 0, 21, Integer.MAX_VALUE}) {
            check.illegalArgument("seal(0, 0, " + many + ")", () -> x.seal(0, 0, many));
        }
        check.same("what a wrong call leaves", Cellars.view(x), before);
        sealToTheLimit(x);
        sealOfRecalled();
    }

    private static void sealToTheLimit(TinCellar x) {
        x.seal(0, 0, 17);
        List<Object> before = Cellars.view(x);
        check.illegalState("seal(0, 0, 20) with 41", () -> x.seal(0, 0, 20));
        check.same("what it leaves", Cellars.view(x), before);
        check.same("seal(0, 0, 19) with 41", x.seal(0, 0, 19), 41);
        check.illegalState("seal(0, 0, 1) with 60", () -> x.seal(0, 0, 1));
        check.illegalArgument("seal(0, 0, 21) with 60", () -> x.seal(0, 0, 21));
        check.outOfBounds("seal(0, 4, 1) with 60", () -> x.seal(0, 4, 1));
        x.recall(0);
        check.illegalState("tins that are lost count among the 60", () -> x.seal(1, 0, 1));
        check.same("tins()", x.tins(), 60);
    }

    private static void sealOfRecalled() {
        TinCellar x = Cellars.withTins(1, 1, 3);
        x.addBatch(9, 0);
        x.pass(1);
        List<Object> before = Cellars.view(x);
        check.illegalState("seal of a batch recalled by swelling", () -> x.seal(0, 0, 1));
        check.illegalArgument("seal of none of it", () -> x.seal(0, 0, 0));
        check.outOfBounds("seal of it on no shelf", () -> x.seal(0, -1, 1));
        check.same("what that leaves", Cellars.view(x), before);
        check.same("seal of another batch", x.seal(1, 0, 1), 3);
        x.recall(1);
        check.illegalState("seal of a batch recalled by hand", () -> x.seal(1, 0, 1));
    }

    private static void promise4() {
        check.part("promise 4");
        TinCellar x = Cellars.mixed();
        check.same("move(0, 3)", x.move(0, 3), 0);
        check.same("shelfOf(0)", x.shelfOf(0), 3);
        check.same("shelfOf(1)", x.shelfOf(1), 0);
        check.same("move(0, 3) again", x.move(0, 3), 3);
        check.same("move(0, 0)", x.move(0, 0), 3);
        check.same("move(4, 1)", x.move(4, 1), 3);
        List<Object> before = Cellars.view(x);
        for (int tin : new int[] {Integer.MIN_VALUE, -1, 5, 60, Integer.MAX_VALUE}) {
            check.outOfBounds("move(" + tin + ", 0)", () -> x.move(tin, 0));
        }
        for (int shelf : new int[] {Integer.MIN_VALUE, -1, 4, Integer.MAX_VALUE}) {
            check.outOfBounds("move(0, " + shelf + ")", () -> x.move(0, shelf));
        }
        check.same("what a wrong call leaves", Cellars.view(x), before);
        x.setShipping(1, 0);
        x.pass(1);
        x.recall(1);
        List<Object> after = Cellars.view(x);
        check.illegalState("move of one shipped", () -> x.move(0, 1));
        check.illegalState("move of one lost", () -> x.move(2, 1));
        check.outOfBounds("move of one shipped to no shelf", () -> x.move(0, 4));
        check.outOfBounds("move of one lost to no shelf", () -> x.move(2, -1));
        check.same("what that leaves", Cellars.view(x), after);
        TinCellar y = Cellars.withTins(9, 0, 1);
        y.setWarm(2, 3);
        y.move(0, 2);
        y.pass(1);
        check.same("the warm of the new shelf counts", y.vacuumOf(0), 6);
    }

    private static void promise5() {
        check.part("promise 5");
        TinCellar x = Cellars.mixed();
        check.same("setWarm(0, 3)", x.setWarm(0, 3), 0);
        check.same("setWarm(0, 1)", x.setWarm(0, 1), 3);
        check.same("setWarm(3, 0)", x.setWarm(3, 0), 3);
        check.same("setWarm(1, 2)", x.setWarm(1, 2), 2);
        check.same("warmOf(0)", x.warmOf(0), 1);
        check.same("warmOf(2)", x.warmOf(2), 0);
        check.same("warmOf(3)", x.warmOf(3), 0);
        List<Object> before = Cellars.view(x);
        for (int shelf : new int[] {Integer.MIN_VALUE, -1, 4, Integer.MAX_VALUE}) {
            check.outOfBounds("setWarm(" + shelf + ", 1)", () -> x.setWarm(shelf, 1));
            check.outOfBounds("setWarm(" + shelf + ", 4)", () -> x.setWarm(shelf, 4));
        }
        for (int warm : new int[] {Integer.MIN_VALUE, -1, 4, Integer.MAX_VALUE}) {
            check.illegalArgument("setWarm(0, " + warm + ")", () -> x.setWarm(0, warm));
        }
        check.same("what a wrong call leaves", Cellars.view(x), before);
        x.pass(1);
        check.same("a day's loss on a shelf made warm", x.vacuumOf(0), 6);
        check.same("a day's loss on a shelf made cold", x.vacuumOf(4), 18);
    }

    private static void promise6() {
        check.part("promise 6");
        TinCellar x = Cellars.withTins(50, 0, 20);
        check.same("setShipping(9, 2)", x.setShipping(9, 2), 0);
        check.same("setShipping(2, 1)", x.setShipping(2, 1), 9);
        check.same("setShipping(2, 0)", x.setShipping(2, 0), 2);
        List<Object> before = Cellars.view(x);
        for (int many : new int[] {Integer.MIN_VALUE, -1, 10, Integer.MAX_VALUE}) {
            check.illegalArgument("setShipping(" + many + ", 1)", () -> x.setShipping(many, 1));
        }
        for (int order : new int[] {Integer.MIN_VALUE, -1, 3, Integer.MAX_VALUE}) {
            check.illegalArgument("setShipping(5, " + order + ")", () -> x.setShipping(5, order));
        }
        check.same("what a wrong call leaves", Cellars.view(x), before);
        check.same("pass(1)", x.pass(1), 2);
        check.same("setShipping(0, 0)", x.setShipping(0, 0), 2);
        check.same("pass(3) with none a day", x.pass(3), 0);
        shippedBy(0, List.of(0, 1));
        shippedBy(1, List.of(2, 3));
        shippedBy(2, List.of(4, 2));
    }

    private static void shippedBy(int order, List<Integer> due) {
        TinCellar x = Cellars.mixed();
        x.setShipping(2, order);
        check.same("pass(1) by the order " + order, x.pass(1), 2);
        for (int tin = 0; tin < 5; tin++) {
            check.same("isShipped(" + tin + ") by the order " + order, x.isShipped(tin), due.contains(tin));
        }
    }

    private static void promise7() {
        check.part("promise 7");
        TinCellar x = Cellars.mixed();
        x.addBatch(1, 0);
        check.same("recall(1)", x.recall(1), 2);
        check.same("isLost(2)", x.isLost(2), true);
        check.same("isLost(3)", x.isLost(3), true);
        check.same("isLost(4)", x.isLost(4), false);
        check.same("lost()", x.lost(), 2);
        check.same("swelled()", x.swelled(), 0);
        check.same("recall(3) of a batch without tins", x.recall(3), 0);
        List<Object> before = Cellars.view(x);
        check.illegalState("recall(1) again", () -> x.recall(1));
        check.illegalState("recall(3) again", () -> x.recall(3));
        for (int batch : new int[] {Integer.MIN_VALUE, -1, 4, 6, Integer.MAX_VALUE}) {
            check.outOfBounds("recall(" + batch + ")", () -> x.recall(batch));
        }
        check.same("what a wrong call leaves", Cellars.view(x), before);
        x.setShipping(1, 0);
        x.pass(1);
        check.same("recall(0) with one shipped", x.recall(0), 1);
        check.same("isShipped(0) stays", x.isShipped(0), true);
        TinCellar y = Cellars.withTins(1, 1, 3);
        y.pass(1);
        check.illegalState("recall of a batch recalled by swelling", () -> y.recall(0));
    }

    private static void promise8() {
        check.part("promise 8");
        TinCellar x = Cellars.withTins(99, 0, 20);
        List<Object> before = Cellars.view(x);
        for (int days : new int[] {Integer.MIN_VALUE, -1, 0, 61, Integer.MAX_VALUE}) {
            check.illegalArgument("pass(" + days + ")", () -> x.pass(days));
        }
        check.same("what a wrong call leaves", Cellars.view(x), before);
        check.same("pass(60) with none shipped", x.pass(60), 0);
        check.same("day()", x.day(), 60);
        x.setShipping(9, 0);
        check.same("pass(1)", x.pass(1), 9);
        check.same("pass(3) with 11 left", x.pass(3), 11);
        check.same("pass(1) with none left", x.pass(1), 0);
        check.same("day() at the end", x.day(), 65);
        swellAheadOfShipping();
        recallAheadOfShipping();
        vacuumStaysAboveNothing();
    }

    private static void swellAheadOfShipping() {
        TinCellar x = Cellars.withTins(1, 1, 2);
        x.setShipping(9, 0);
        check.same("shipped of tins that swell on that day", x.pass(1), 0);
        check.same("lost()", x.lost(), 2);
        check.same("two swelled lids recall nothing", x.isRecalled(0), false);
        TinCellar y = Cellars.withTins(2, 1, 2);
        y.setShipping(9, 0);
        check.same("shipped a day ahead of swelling", y.pass(2), 2);
        check.same("lost()", y.lost(), 0);
    }

    private static void recallAheadOfShipping() {
        TinCellar x = Cellars.withBatch(3, 0);
        x.addBatch(9, 0);
        x.setWarm(1, 3);
        x.seal(0, 0, 2);
        x.seal(0, 1, 3);
        x.seal(1, 0, 1);
        x.setShipping(3, 0);
        check.same("shipped on the day of a recall", x.pass(1), 1);
        check.same("lost()", x.lost(), 5);
        check.same("swelled()", x.swelled(), 3);
        check.same("isLost(0)", x.isLost(0), true);
        check.same("isShipped(5)", x.isShipped(5), true);
        TinCellar y = Cellars.withBatch(3, 0);
        y.setWarm(1, 3);
        y.seal(0, 1, 2);
        y.seal(0, 0, 2);
        y.pass(1);
        check.same("not recalled at 2", y.isRecalled(0), false);
        y.move(2, 1);
        y.pass(1);
        check.same("recalled at 3 in all", y.isRecalled(0), true);
        check.same("lost with it", y.lost(), 4);
    }

    private static void vacuumStaysAboveNothing() {
        TinCellar x = Cellars.withTins(7, 5, 1);
        x.setWarm(0, 3);
        x.pass(1);
        check.same("vacuum of 7 less 8", x.vacuumOf(0), 0);
        check.same("isLost(0)", x.isLost(0), true);
        check.same("swelled()", x.swelled(), 1);
        x.pass(2);
        check.same("a lid swells once", x.swelled(), 1);
    }

    // ---- the cellar

    private static void promises9To15() {
        TinCellar x = Cellars.mixed();
        cellar(x, new int[] {0, 3, 5, 5, 0, 0, 0});
        x.pass(2);
        cellar(x, new int[] {2, 3, 5, 5, 0, 0, 0});
        x.pass(1);
        cellar(x, new int[] {3, 3, 5, 3, 0, 2, 2});
        x.setShipping(1, 1);
        x.pass(1);
        cellar(x, new int[] {4, 3, 5, 1, 1, 3, 3});
        x.addBatch(9, 0);
        x.seal(3, 0, 20);
        cellar(x, new int[] {4, 4, 25, 21, 1, 3, 3});
        x.recall(3);
        cellar(x, new int[] {4, 4, 25, 1, 1, 23, 3});
        x.pass(60);
        cellar(x, new int[] {64, 4, 25, 0, 2, 23, 3});
    }

    private static void cellar(TinCellar x, int[] due) {
        check.part("promise 9");
        check.same("day()", x.day(), due[0]);
        check.part("promise 10");
        check.same("batches()", x.batches(), due[1]);
        check.part("promise 11");
        check.same("tins()", x.tins(), due[2]);
        check.part("promise 12");
        check.same("inCellar()", x.inCellar(), due[3]);
        check.part("promise 13");
        check.same("shipped()", x.shipped(), due[4]);
        check.part("promise 14");
        check.same("lost()", x.lost(), due[5]);
        check.part("promise 15");
        check.same("swelled()", x.swelled(), due[6]);
    }

    private static void promise16() {
        check.part("promise 16");
        TinCellar x = Cellars.mixed();
        check.same("standOn(0)", x.standOn(0), 2);
        check.same("standOn(1)", x.standOn(1), 2);
        check.same("standOn(2)", x.standOn(2), 0);
        check.same("standOn(3)", x.standOn(3), 1);
        x.move(4, 2);
        check.same("standOn(2) after a move", x.standOn(2), 1);
        check.same("standOn(3) after a move", x.standOn(3), 0);
        x.setShipping(1, 0);
        x.pass(1);
        check.same("standOn(0) with one shipped", x.standOn(0), 1);
        x.recall(1);
        check.same("standOn(1) with two lost", x.standOn(1), 0);
        for (int shelf : new int[] {Integer.MIN_VALUE, -1, 4, Integer.MAX_VALUE}) {
            check.outOfBounds("standOn(" + shelf + ")", () -> x.standOn(shelf));
        }
    }

    private static void promise17() {
        check.part("promise 17");
        TinCellar x = Cellars.mixed();
        check.same("warmOf(0)", x.warmOf(0), 0);
        check.same("warmOf(1)", x.warmOf(1), 2);
        check.same("warmOf(2)", x.warmOf(2), 0);
        check.same("warmOf(3)", x.warmOf(3), 3);
        for (int shelf : new int[] {Integer.MIN_VALUE, -1, 4, Integer.MAX_VALUE}) {
            check.outOfBounds("warmOf(" + shelf + ")", () -> x.warmOf(shelf));
        }
    }

    // ---- tins and batches

    private static void noSuchTin(TinCellar x, String name, java.util.function.IntFunction<Object> ask) {
        for (int tin : FAR) {
            check.outOfBounds(name + "(" + tin + ")", () -> ask.apply(tin));
        }
        check.outOfBounds(name + "(tins())", () -> ask.apply(x.tins()));
    }

    private static void noSuchBatch(TinCellar x, String name, java.util.function.IntFunction<Object> ask) {
        for (int batch : new int[] {Integer.MIN_VALUE, -1, x.batches(), 6, Integer.MAX_VALUE}) {
            check.outOfBounds(name + "(" + batch + ")", () -> ask.apply(batch));
        }
    }

    private static void promise18() {
        check.part("promise 18");
        TinCellar x = Cellars.mixed();
        check.same("batchOf(0)", x.batchOf(0), 0);
        check.same("batchOf(3)", x.batchOf(3), 1);
        check.same("batchOf(4)", x.batchOf(4), 2);
        x.recall(1);
        check.same("batchOf one lost", x.batchOf(3), 1);
        noSuchTin(x, "batchOf", x::batchOf);
    }

    private static void promise19() {
        check.part("promise 19");
        TinCellar x = Cellars.mixed();
        check.same("shelfOf(1)", x.shelfOf(1), 0);
        check.same("shelfOf(2)", x.shelfOf(2), 1);
        check.same("shelfOf(4)", x.shelfOf(4), 3);
        x.setShipping(1, 0);
        x.pass(1);
        check.same("shelfOf one shipped", x.shelfOf(0), -1);
        x.recall(1);
        check.same("shelfOf one lost", x.shelfOf(2), -1);
        noSuchTin(x, "shelfOf", x::shelfOf);
    }

    private static void promise20() {
        check.part("promise 20");
        TinCellar x = Cellars.mixed();
        check.same("vacuumOf(4)", x.vacuumOf(4), 20);
        x.setShipping(1, 0);
        x.pass(1);
        x.setShipping(0, 0);
        check.same("vacuumOf one in the cellar", x.vacuumOf(1), 7);
        check.same("vacuumOf(4) after a day", x.vacuumOf(4), 15);
        x.recall(2);
        x.pass(2);
        check.same("vacuumOf one shipped, as it was last", x.vacuumOf(0), 7);
        check.same("vacuumOf one recalled, as it was last", x.vacuumOf(4), 15);
        check.same("vacuumOf one swelled", x.vacuumOf(2), 0);
        noSuchTin(x, "vacuumOf", x::vacuumOf);
        TinCellar y = Cellars.withBatch(9, 1);
        y.setWarm(1, 3);
        y.seal(0, 1, 3);
        y.seal(0, 0, 1);
        y.pass(4);
        check.same("vacuumOf one lost as others swelled", y.vacuumOf(3), 6);
    }

    private static void promises21And22() {
        check.part("promises 21 and 22");
        TinCellar x = Cellars.mixed();
        x.setShipping(1, 0);
        x.pass(1);
        x.setShipping(0, 0);
        x.pass(2);
        x.recall(2);
        boolean[] shipped = {true, false, false, false, false};
        boolean[] lost = {false, false, true, true, true};
        for (int tin = 0; tin < 5; tin++) {
            check.same("isShipped(" + tin + ")", x.isShipped(tin), shipped[tin]);
            check.same("isLost(" + tin + ")", x.isLost(tin), lost[tin]);
        }
        noSuchTin(x, "isShipped", x::isShipped);
        noSuchTin(x, "isLost", x::isLost);
    }

    private static void promise23() {
        check.part("promise 23");
        TinCellar x = Cellars.mixed();
        check.same("swelledOf(1)", x.swelledOf(1), 0);
        x.pass(3);
        check.same("swelledOf(0) on the day 3", x.swelledOf(0), 0);
        check.same("swelledOf(1) on the day 3", x.swelledOf(1), 2);
        x.recall(0);
        check.same("swelledOf one recalled by hand", x.swelledOf(0), 0);
        x.pass(1);
        check.same("swelledOf(2) on the day 4", x.swelledOf(2), 1);
        noSuchBatch(x, "swelledOf", x::swelledOf);
    }

    private static void promise24() {
        check.part("promise 24");
        TinCellar x = Cellars.mixed();
        x.addBatch(9, 5);
        check.same("leftOf(0)", x.leftOf(0), 2);
        check.same("leftOf(2)", x.leftOf(2), 1);
        check.same("leftOf(3)", x.leftOf(3), 0);
        x.setShipping(1, 0);
        x.pass(1);
        check.same("leftOf(0) with one shipped", x.leftOf(0), 1);
        x.recall(1);
        check.same("leftOf(1), recalled", x.leftOf(1), 0);
        noSuchBatch(x, "leftOf", x::leftOf);
    }

    private static void promise25() {
        check.part("promise 25");
        TinCellar x = Cellars.withTins(2, 1, 3);
        x.addBatch(2, 1);
        x.seal(1, 0, 2);
        check.same("isRecalled(0)", x.isRecalled(0), false);
        x.pass(1);
        check.same("isRecalled(0) a day before", x.isRecalled(0), false);
        x.pass(1);
        check.same("isRecalled(0) with 3", x.isRecalled(0), true);
        check.same("isRecalled(1) with 2", x.isRecalled(1), false);
        x.recall(1);
        check.same("isRecalled(1) by hand", x.isRecalled(1), true);
        noSuchBatch(x, "isRecalled", x::isRecalled);
    }

    // ---- orders

    private static void promise26() {
        check.part("promise 26");
        TinCellar x = Cellars.mixed();
        check.same("first(0)", x.first(0), 0);
        check.same("first(1)", x.first(1), 2);
        check.same("first(2)", x.first(2), 4);
        x.move(3, 3);
        check.same("first(2) of those alike", x.first(2), 3);
        x.setWarm(0, 3);
        check.same("first(2) of two shelves alike", x.first(2), 0);
        x.recall(1);
        check.same("first(1) with one lost", x.first(1), 0);
        x.recall(0);
        check.same("first(0)", x.first(0), 4);
        x.recall(2);
        for (int order = 0; order < 3; order++) {
            check.same("first(" + order + ") without any", x.first(order), -1);
            check.same("first(" + order + ") of a new one", new TinCellar().first(order), -1);
        }
        for (int order : new int[] {Integer.MIN_VALUE, -1, 3, Integer.MAX_VALUE}) {
            check.illegalArgument("first(" + order + ")", () -> x.first(order));
        }
    }

    private static void promise27() {
        check.part("promise 27");
        TinCellar x = Cellars.mixed();
        places(x, 0, new int[] {0, 1, 2, 3, 4});
        places(x, 1, new int[] {2, 3, 0, 1, 4});
        places(x, 2, new int[] {3, 4, 1, 2, 0});
        x.setShipping(1, 1);
        x.pass(1);
        places(x, 0, new int[] {0, 1, -1, 2, 3});
        places(x, 1, new int[] {1, 2, -1, 0, 3});
        places(x, 2, new int[] {2, 3, -1, 1, 0});
        x.recall(0);
        places(x, 1, new int[] {-1, -1, -1, 0, 1});
        for (int tin : FAR) {
            check.outOfBounds("placeBy(" + tin + ", 0)", () -> x.placeBy(tin, 0));
            check.outOfBounds("placeBy(" + tin + ", 3)", () -> x.placeBy(tin, 3));
        }
        for (int order : new int[] {Integer.MIN_VALUE, -1, 3, Integer.MAX_VALUE}) {
            check.illegalArgument("placeBy(3, " + order + ")", () -> x.placeBy(3, order));
            check.illegalArgument("placeBy(0, " + order + ") of one lost", () -> x.placeBy(0, order));
        }
    }

    private static void places(TinCellar x, int order, int[] due) {
        for (int tin = 0; tin < due.length; tin++) {
            check.same("placeBy(" + tin + ", " + order + ")", x.placeBy(tin, order), due[tin]);
        }
    }

    // ---- what would be

    private static void promise28() {
        check.part("promise 28");
        TinCellar x = Cellars.withBatch(10, 0);
        x.addBatch(10, 3);
        x.addBatch(1, 5);
        x.addBatch(99, 1);
        x.setWarm(1, 2);
        x.seal(0, 0, 1);
        x.seal(0, 1, 1);
        x.seal(1, 0, 1);
        x.seal(1, 1, 1);
        x.seal(2, 0, 3);
        x.seal(3, 0, 1);
        x.setShipping(9, 0);
        List<Object> before = Cellars.view(x);
        int[] due = {-1, 5, 4, 2, 1, 1, 1, 99};
        for (int tin = 0; tin < due.length; tin++) {
            check.same("daysOf(" + tin + ")", x.daysOf(tin), due[tin]);
        }
        check.same("what it leaves", Cellars.view(x), before);
        x.setShipping(1, 0);
        x.pass(1);
        check.same("daysOf one shipped", x.daysOf(0), -1);
        check.same("daysOf(1) a day later", x.daysOf(1), 4);
        check.same("daysOf one lost", x.daysOf(4), -1);
        x.setWarm(1, 0);
        check.same("daysOf(1) on a cold shelf", x.daysOf(1), -1);
        noSuchTin(x, "daysOf", x::daysOf);
        TinCellar y = Cellars.withBatch(9, 1);
        y.setWarm(1, 3);
        y.seal(0, 1, 3);
        y.seal(0, 0, 1);
        check.same("daysOf one that a recall would take", y.daysOf(3), 9);
    }

    private static void promise29() {
        check.part("promise 29");
        check.same("3 tins of 60, leaking 1", Cellars.withTins(60, 1, 3).daysUntilRecalled(0), 60);
        check.same("3 tins of 61, leaking 1", Cellars.withTins(61, 1, 3).daysUntilRecalled(0), -1);
        check.same("2 tins", Cellars.withTins(5, 1, 2).daysUntilRecalled(0), -1);
        check.same("no tins", Cellars.withBatch(5, 1).daysUntilRecalled(0), -1);
        check.same("3 tins of 1, leaking 5", Cellars.withTins(1, 5, 3).daysUntilRecalled(0), 1);
        TinCellar x = Cellars.withTins(5, 1, 4);
        x.setWarm(1, 3);
        check.same("4 tins of 5, leaking 1", x.daysUntilRecalled(0), 5);
        x.move(0, 1);
        x.move(3, 1);
        check.same("two of them on a warm shelf", x.daysUntilRecalled(0), 5);
        x.move(1, 1);
        List<Object> before = Cellars.view(x);
        check.same("three of them on a warm shelf", x.daysUntilRecalled(0), 2);
        check.same("what it leaves", Cellars.view(x), before);
        x.setShipping(1, 0);
        check.same("with one shipped a day", x.daysUntilRecalled(0), -1);
        x.setShipping(1, 1);
        check.same("with one shipped a day by vacuum", x.daysUntilRecalled(0), -1);
        x.setShipping(0, 0);
        x.pass(1);
        check.same("a day later", x.daysUntilRecalled(0), 1);
        x.pass(1);
        check.same("once recalled", x.daysUntilRecalled(0), 0);
        TinCellar y = Cellars.withTins(9, 0, 1);
        y.recall(0);
        check.same("once recalled by hand", y.daysUntilRecalled(0), 0);
        noSuchBatch(y, "daysUntilRecalled", y::daysUntilRecalled);
        recalledOfTwo();
    }

    private static void recalledOfTwo() {
        TinCellar x = Cellars.withTins(99, 0, 5);
        x.addBatch(5, 1);
        x.seal(1, 0, 4);
        check.same("the one that does not leak", x.daysUntilRecalled(0), -1);
        check.same("the one that leaks", x.daysUntilRecalled(1), 5);
        x.setShipping(1, 0);
        check.same("with others shipped ahead of it", x.daysUntilRecalled(1), 5);
        x.setShipping(1, 1);
        check.same("with its own shipped first", x.daysUntilRecalled(1), -1);
    }

    private static void promise30() {
        check.part("promise 30");
        check.same("2 tins of 30, leaking 1", Cellars.withTins(30, 1, 2).lostWith(0, 0), 2);
        check.same("2 tins of 31, leaking 1", Cellars.withTins(31, 1, 2).lostWith(0, 0), 0);
        TinCellar x = Cellars.withTins(5, 1, 9);
        x.setShipping(9, 0);
        List<Object> before = Cellars.view(x);
        int[] due = {9, 5, 1, 0, 0, 0, 0, 0, 0, 0};
        for (int many = 0; many < 10; many++) {
            check.same("lostWith(" + many + ", 0)", x.lostWith(many, 0), due[many]);
        }
        check.same("what it leaves", Cellars.view(x), before);
        TinCellar y = Cellars.mixed();
        y.pass(3);
        check.same("those lost before do not count", y.lostWith(0, 0), 3);
        TinCellar z = Cellars.withBatch(60, 0);
        z.setWarm(1, 2);
        z.seal(0, 0, 4);
        z.seal(0, 1, 3);
        check.same("those that a recall takes count", z.lostWith(0, 0), 7);
        check.same("by the oldest", z.lostWith(1, 0), 0);
        lostByOrder();
        for (int many : new int[] {Integer.MIN_VALUE, -1, 10, Integer.MAX_VALUE}) {
            check.illegalArgument("lostWith(" + many + ", 0)", () -> x.lostWith(many, 0));
        }
        for (int order : new int[] {Integer.MIN_VALUE, -1, 3, Integer.MAX_VALUE}) {
            check.illegalArgument("lostWith(0, " + order + ")", () -> x.lostWith(0, order));
        }
    }

    private static void lostByOrder() {
        TinCellar weakFive = Cellars.oneWarmBehind(1);
        check.same("weak five by the oldest", weakFive.lostWith(1, 0), 1);
        check.same("weak five by the weakest", weakFive.lostWith(1, 1), 1);
        check.same("weak five by the warmest", weakFive.lostWith(1, 2), 0);
        TinCellar strongFive = Cellars.oneWarmBehind(99);
        check.same("strong five by the oldest", strongFive.lostWith(1, 0), 1);
        check.same("strong five by the weakest", strongFive.lostWith(1, 1), 0);
        check.same("strong five by the warmest", strongFive.lostWith(1, 2), 0);
    }

    private static void promise31() {
        check.part("promise 31");
        check.same("without tins", new TinCellar().bestOrder(), 0);
        TinCellar x = Cellars.oneWarmBehind(1);
        check.same("with none shipped", x.bestOrder(), 0);
        x.setShipping(1, 0);
        List<Object> before = Cellars.view(x);
        check.same("with one shipped, weak five", x.bestOrder(), 2);
        check.same("what it leaves", Cellars.view(x), before);
        x.setShipping(2, 2);
        check.same("with two shipped, weak five", x.bestOrder(), 0);
        TinCellar y = Cellars.oneWarmBehind(99);
        y.setShipping(1, 2);
        check.same("with one shipped, strong five", y.bestOrder(), 1);
    }

    private static void promise32() {
        check.part("promise 32");
        check.same("without tins", new TinCellar().shippingWanted(), 0);
        check.same("9 tins, one day", Cellars.withTins(2, 1, 9).shippingWanted(), 9);
        check.same("10 tins, one day", Cellars.withTins(2, 1, 10).shippingWanted(), -1);
        check.same("tins that swell at once", Cellars.withTins(1, 1, 1).shippingWanted(), -1);
        check.same("8 tins, 4 days", Cellars.withTins(5, 1, 8).shippingWanted(), 2);
        check.same("9 tins, 4 days", Cellars.withTins(5, 1, 9).shippingWanted(), 3);
        check.same("a tin that swells on the day 30", Cellars.withTins(30, 1, 1).shippingWanted(), 1);
        check.same("a tin that swells on the day 31", Cellars.withTins(31, 1, 1).shippingWanted(), 0);
        TinCellar x = Cellars.oneWarmBehind(1);
        check.same("weak five by the oldest", x.shippingWanted(), 2);
        check.same("strong five by the oldest, as at first", Cellars.oneWarmBehind(99).shippingWanted(), 2);
        x.setShipping(9, 1);
        check.same("weak five by the weakest", x.shippingWanted(), 2);
        x.setShipping(0, 2);
        List<Object> before = Cellars.view(x);
        check.same("weak five by the warmest", x.shippingWanted(), 1);
        check.same("what it leaves", Cellars.view(x), before);
        TinCellar y = Cellars.mixed();
        y.pass(3);
        y.recall(0);
        y.recall(2);
        check.same("those lost before do not count", y.shippingWanted(), 0);
    }

    private static void promise33() {
        check.part("promise 33");
        TinCellar x = Cellars.withBatch(10, 0);
        x.addBatch(10, 5);
        x.addBatch(99, 0);
        x.seal(0, 3, 1);
        x.seal(1, 3, 1);
        x.seal(2, 2, 1);
        check.same("all shelves cold", x.bestShelf(0), 0);
        x.setWarm(0, 3);
        List<Object> before = Cellars.view(x);
        check.same("never swelling on the shelf 1", x.bestShelf(0), 1);
        check.same("swelling on the day 2 on each", x.bestShelf(1), 0);
        check.same("never swelling on the shelf 1, of 99", x.bestShelf(2), 1);
        check.same("what it leaves", Cellars.view(x), before);
        x.setWarm(1, 2);
        x.setWarm(2, 1);
        check.same("never swelling on its own shelf", x.bestShelf(0), 3);
        x.setWarm(3, 2);
        check.same("10 days on the shelf 2", x.bestShelf(0), 2);
        x.setWarm(2, 2);
        check.same("5 days on the shelves 1, 2 and 3", x.bestShelf(0), 1);
        x.setShipping(1, 0);
        x.pass(1);
        check.same("one shipped", x.bestShelf(0), -1);
        x.recall(2);
        check.same("one lost", x.bestShelf(2), -1);
        noSuchTin(x, "bestShelf", x::bestShelf);
    }

    private static void promise34() {
        check.part("promise 34");
        check.same("without any", new TinCellar().meanVacuum(), 0.0);
        TinCellar x = Cellars.mixed();
        check.same("meanVacuum()", x.meanVacuum(), 46.0 / 5);
        x.recall(1);
        check.same("with two lost", x.meanVacuum(), 12.0);
        x.setShipping(1, 0);
        x.pass(1);
        check.same("with one shipped", x.meanVacuum(), 11.0);
        x.recall(0);
        x.recall(2);
        check.same("with none left", x.meanVacuum(), 0.0);
        TinCellar y = Cellars.withTins(1, 0, 2);
        y.addBatch(2, 0);
        y.seal(1, 0, 1);
        check.same("a third", y.meanVacuum(), 4.0 / 3);
    }

    private static void promise35() {
        check.part("promise 35");
        long empty = 2351;
        long[] ofEmpty = {0, 0, 0, 0, 0, 0, 0, -1, -1, -1, 0, 0, 0, 0, 0, 0, 0, 0, 0, 0};
        for (long n : ofEmpty) {
            empty = empty * 31 + n;
        }
        check.same("digest() of a new one", new TinCellar().digest(), empty);
        TinCellar one = Cellars.withTins(4, 2, 1);
        one.setWarm(1, 1);
        one.setShipping(0, 1);
        long[] ofOne = {0, 1, 1, 1, 0, 0, 0, 0, 0, 0, 0, 1, 1, 0, 0, 1, 0, 0, 0, 0, 0, 1, 0, -1, 0, 4, 0, 0, 2, 0};
        long d = 2351;
        for (long n : ofOne) {
            d = d * 31 + n;
        }
        check.same("digest() of one tin", one.digest(), d);
        TinCellar x = Cellars.mixed();
        x.setShipping(1, 1);
        for (int days = 0; days < 8; days++) {
            check.same("digest() on the day " + days, x.digest(), digestByFace(x));
            check.same("digest() again", x.digest(), digestByFace(x));
            x.pass(1);
        }
        x.recall(0);
        check.same("digest() with a batch recalled", x.digest(), digestByFace(x));
    }

    private static long digestByFace(TinCellar x) {
        List<Object> seen = new ArrayList<>(List.of(x.day(), x.batches(), x.tins(), x.inCellar(), x.shipped(),
                x.lost(), x.swelled(), x.first(0), x.first(1), x.first(2)));
        seen.addAll(List.of(x.bestOrder(), x.shippingWanted()));
        for (int shelf = 0; shelf < 4; shelf++) {
            seen.addAll(List.of(x.standOn(shelf), x.warmOf(shelf)));
        }
        for (int b = 0; b < x.batches(); b++) {
            seen.addAll(List.of(x.swelledOf(b), x.leftOf(b), x.isRecalled(b) ? 1 : 0, x.daysUntilRecalled(b)));
        }
        for (int t = 0; t < x.tins(); t++) {
            seen.addAll(List.of(x.shelfOf(t), x.vacuumOf(t), x.isShipped(t) ? 1 : 0, x.placeBy(t, 1), x.daysOf(t)));
            seen.add(x.bestShelf(t));
        }
        long d = 2351;
        for (Object n : seen) {
            d = d * 31 + (Integer) n;
        }
        return d;
    }
}
