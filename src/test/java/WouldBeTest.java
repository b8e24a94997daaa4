/** Promises 21 to 25: waits, time, bestPlace, leastBribe, saves; all of them change nothing. */
public final class WouldBeTest {
    public static void main(String[] args) {
        waits();
        times();
        findsBestPlace();
        findsLeastBribe();
        saves();
        Check.end("WouldBeTest");
    }

    private static void would(Drum x, String what, int due, java.util.function.Supplier<Integer> call) {
        String before = x.view();
        Check.is(what, due, call.get());
        Check.is(what + " changes nothing", before, x.view());
    }

    private static void waits() {
        Drum x = Drum.loaded("D12o01----50o01----30");
        would(x, "no place", -1, () -> x.waits(0));
        x.lay();
        would(x, "now", 0, () -> x.waits(0));
        would(x, "next", 1, () -> x.waits(1));
        x.turn(25);
        would(x, "a round but one", 11, () -> x.waits(0));
        would(x, "now again", 0, () -> x.waits(1));
        Check.fails("waits(2)", Check.INDEX, x, () -> x.waits(2));
        Check.fails("waits(-1)", Check.INDEX, x, () -> x.waits(-1));
        Check.is("waits is no action", 2, x.undoAll());
    }

    private static void times() {
        Drum x = Drum.loaded("D12o0301--50o1202--30o21--0120");
        would(x, "missing", 0, () -> x.time(0));
        x.lay();
        would(x, "told", 9, () -> x.time(0));
        x.turn(7);
        would(x, "with a wait", 14, () -> x.time(0));
        x.change(2, 3, 0);
        would(x, "forged", 12, () -> x.time(0));
        x.change(1, 2, 0);
        would(x, "too long", 5 + 49 * 12 + 4 + 3 - 5 + 5 - 3, () -> x.time(0));
        x.run(0);
        Check.is("run takes that long", 7 + 5 + 49 * 12 + 4, x.about(2));
        Check.fails("time(3)", Check.INDEX, x, () -> x.time(3));
        Check.fails("time(-1)", Check.INDEX, x, () -> x.time(-1));
        Check.is("time is no action", 5, x.undoAll());
    }

    private static void findsBestPlace() {
        Drum x = Drum.loaded("D12o0301--50o1202--30o21----20");
        would(x, "for one without a place that ends the run", 0, () -> x.bestPlace(1, 0));
        x.move(0, 0);
        x.move(2, 4);
        // with 0 at 0 and 2 at 4, a run from 0 comes to 1 in the tick 4, and ends in the tick 18 with 1 at 1 or 5 to 11
        would(x, "the first of those that are as good", 1, () -> x.bestPlace(1, 0));
        x.move(1, 9);
        would(x, "for one that has a place", 1, () -> x.bestPlace(1, 0));
        would(x, "the first free one", 1, () -> x.bestPlace(2, 2));
        would(x, "its own place", 0, () -> x.bestPlace(0, 0));
        x.turn(3);
        would(x, "from the tick of now", 3, () -> x.bestPlace(2, 2));
        would(x, "one of no matter", 0, () -> x.bestPlace(0, 2));
        Check.fails("bestPlace(3, 0)", Check.INDEX, x, () -> x.bestPlace(3, 0));
        Check.fails("bestPlace(0, 3)", Check.INDEX, x, () -> x.bestPlace(0, 3));
        Check.fails("bestPlace(-1, 0)", Check.INDEX, x, () -> x.bestPlace(-1, 0));
        Check.fails("bestPlace(0, -1)", Check.INDEX, x, () -> x.bestPlace(0, -1));
        Drum full = Drum.loaded("D06" + "o01----10".repeat(7));
        full.lay();
        would(full, "no free place", -1, () -> full.bestPlace(6, 0));
        would(full, "its own alone", 5, () -> full.bestPlace(5, 0));
    }

    private static void findsLeastBribe() {
        Drum x = Drum.loaded("D12o01----99o01----50o01----20");
        would(x, "as much as the greatest, being ahead of it", 50, () -> x.leastBribe(0));
        would(x, "none is enough", -1, () -> x.leastBribe(1));
        x.change(0, 4, 98);
        would(x, "more than the greatest", 99, () -> x.leastBribe(1));
        would(x, "more than both", 99, () -> x.leastBribe(2));
        x.change(1, 2, 0);
        would(x, "0 will do: the place ahead of its next one", 0, () -> x.leastBribe(1));
        Check.is("alone", 0, Drum.loaded("D12o01----99").leastBribe(0));
        Drum full = Drum.loaded("D06" + "o01----10".repeat(6) + "o01----00");
        would(full, "without a place there is no delay", 11, () -> full.leastBribe(6));
        Check.fails("leastBribe(3)", Check.INDEX, x, () -> x.leastBribe(3));
        Check.fails("leastBribe(-1)", Check.INDEX, x, () -> x.leastBribe(-1));
    }

    private static void saves() {
        Drum x = Drum.loaded("D12o0301--50o1202--30o21----20");
        would(x, "longer, for it was missing", -9, () -> x.saves(0));
        x.lay();
        would(x, "nothing", 0, () -> x.saves(0));
        x.move(1, 3);
        // 0 to 4, then a wait of 11 to 15, 18, a wait of 1 to 19, 21
        would(x, "shorter", 12, () -> x.saves(0));
        x.turn(4);
        would(x, "as long but for the beginning", 0, () -> x.saves(2));
        Check.fails("saves(3)", Check.INDEX, x, () -> x.saves(3));
        Check.fails("saves(-1)", Check.INDEX, x, () -> x.saves(-1));
        Check.is("saves is no action", 3, x.undoAll());
    }
}
