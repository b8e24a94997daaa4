/** The methods of the face by their names. */
final class Calls {
    private Calls() {
    }

    static int call(ProgramDrum x, String name, long... a) {
        if (a.length != arguments(name)) {
            throw new AssertionError(name + " takes another number of arguments");
        }
        switch (name) {
            case "append": return x.append((int) a[0]);
            case "clearText": return x.clearText();
            case "errorPosition": return x.errorPosition();
            case "load": return x.load();
            case "about": return x.about((int) a[0]);
            case "order": return x.order((int) a[0], (int) a[1]);
            case "author": return x.author((int) a[0], (int) a[1]);
            case "at": return x.at((int) a[0]);
            case "jump": return x.jump((int) a[0], (int) a[1]);
            case "chain": return x.chain((int) a[0]);
            case "ring": return x.ring((int) a[0]);
            case "setDrum": return x.setDrum((int) a[0]);
            case "addOrder": return x.addOrder((int) a[0], (int) a[1], (int) a[2], (int) a[3], (int) a[4]);
            case "change": return x.change((int) a[0], (int) a[1], (int) a[2]);
            case "move": return x.move((int) a[0], (int) a[1]);
            case "lay": return x.lay();
            case "run": return x.run((int) a[0]);
            case "turn": return x.turn((int) a[0]);
            case "undo": return x.undo();
            case "waits": return x.waits((int) a[0]);
            case "time": return x.time((int) a[0]);
            case "bestPlace": return x.bestPlace((int) a[0], (int) a[1]);
            case "leastBribe": return x.leastBribe((int) a[0]);
            case "saves": return x.saves((int) a[0]);
            case "runScript": return x.runScript((int) a[0], a[1]);
            case "simulate": return x.simulate(a[0], (int) a[1]);
            case "save": return x.save((int) a[0]);
            case "restore": return x.restore((int) a[0]);
            default: throw new AssertionError(name);
        }
    }

    private static int arguments(String name) {
        switch (name) {
            case "clearText": case "errorPosition": case "load": case "lay": case "undo":
                return 0;
            case "order": case "author": case "jump": case "move": case "bestPlace": case "runScript": case "simulate":
                return 2;
            case "change":
                return 3;
            case "addOrder":
                return 5;
            default:
                return 1;
        }
    }

    /** Whether the calls of this method change nothing, whatever they answer. */
    static boolean onlyLooks(String name) {
        switch (name) {
            case "errorPosition": case "about": case "order": case "author": case "at": case "jump": case "chain":
            case "ring": case "waits": case "time": case "bestPlace": case "leastBribe": case "saves": case "runScript":
            case "simulate":
                return true;
            default:
                return false;
        }
    }
}
