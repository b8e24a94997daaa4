/** Promises 28 and 29: save, restore. */
public final class SlotTest {
    public static void main(String[] args) {
        savesAndRestores();
        restoresOtherJumps();
        keepsTwoSlots();
        leavesTheRest();
        refuses();
        Check.end("SlotTest");
    }

    private static Drum lived() {
        Drum x = Drum.loaded("D12o0101--50o1102--30o21----20");
        x.lay();
        x.run(0);
        x.turn(5);
        x.move(2, 8);
        return x;
    }

    private static void savesAndRestores() {
        Drum x = lived();
        String view = x.view();
        Check.is("save(0)", 3, x.save(0));
        Check.is("save changes nothing", view, x.view());
        x.change(0, 4, 9);
        x.addOrder(1, 2, 3, 4, 5);
        x.setDrum(20);
        x.lay();
        x.run(2);
        Check.is("restore(0)", 3, x.restore(0));
        Check.is("restored", view, x.view());
        Check.is("nothing to undo", "throws IllegalStateException", Check.answer(x::undo));
        x.turn(9);
        x.lay();
        Check.is("undo behind restore", 1, x.undo());
        Check.is("the slot keeps it", 3, x.restore(0));
        Check.is("restored again", view, x.view());
    }

    private static void restoresOtherJumps() {
        Drum x = Drum.loaded("D12o0101--50o1102--30o2102--20");
        x.lay();
        x.save(0);
        x.run(0);
        x.save(1);
        String jumps = x.view();
        x.restore(0);
        Check.is("no jumps", 0, x.about(8));
        x.change(2, 0, 3);
        x.run(2);
        Check.is("another jump", 2, x.jump(0, 0));
        Check.is("another author", 1, x.author(3, 0));
        x.restore(1);
        Check.is("the jumps are back", jumps, x.view());
    }

    private static void keepsTwoSlots() {
        Drum x = new Drum();
        Check.is("save(0)", 0, x.save(0));
        x.addOrder(0, 1, 0, 0, 0);
        Check.is("save(1)", 1, x.save(1));
        x.addOrder(0, 1, 0, 0, 0);
        Check.is("restore(0)", 0, x.restore(0));
        Check.is("restore(1)", 1, x.restore(1));
        x.addOrder(0, 1, 0, 0, 0);
        x.addOrder(0, 1, 0, 0, 0);
        Check.is("save(0) over it", 3, x.save(0));
        Check.is("restore(1)", 1, x.restore(1));
        Check.is("restore(0)", 3, x.restore(0));
    }

    private static void leavesTheRest() {
        Drum x = lived();
        x.save(1);
        Check.is("save is no action", 3, x.undo());
        x.undo();
        Check.is("undo leaves the slot", 3, x.restore(1));
        Check.is("the tick", 16 - 5, x.about(2));
        x.append('x');
        x.restore(1);
        Check.is("restore leaves the text", 31, x.clearText());
        Drum other = new Drum();
        Check.fails("another object has its own slots", Check.STATE, other, () -> other.restore(1));
    }

    private static void refuses() {
        Drum x = lived();
        Check.fails("save(2)", Check.INDEX, x, () -> x.save(2));
        Check.fails("save(-1)", Check.INDEX, x, () -> x.save(-1));
        Check.fails("restore(2)", Check.INDEX, x, () -> x.restore(2));
        Check.fails("restore(-1)", Check.INDEX, x, () -> x.restore(-1));
        Check.fails("restore(1), nothing saved", Check.STATE, x, () -> x.restore(1));
        x.save(0);
        Check.fails("restore(1), only 0 saved", Check.STATE, x, () -> x.restore(1));
        Check.is("what fails forgets nothing", 4, x.undoAll());
        x.load();
        Check.fails("restore(0) behind load", Check.STATE, x, () -> x.restore(0));
    }
}
