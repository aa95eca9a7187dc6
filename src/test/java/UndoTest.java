/** Promises 59 to 61: save, restore and undo. */
final class UndoTest {
    public static void main(String[] args) {
        undoOfEachMethod();
        latestEight();
        questionsAreNotRemembered();
        slots();
        slotsAndUndo();
        Check.end();
    }

    private static void undone(AlmanacOffice x, String call, String before, int left) {
        Check.due("undo of " + call, x.undo(), left);
        Check.dueText("state after undo of " + call, Check.stateOf(x), before);
    }

    private static void undoOfEachMethod() {
        AlmanacOffice x = new AlmanacOffice();
        String first = Check.stateOf(x);
        x.print(0, 6, 1);
        undone(x, "print", first, 0);
        x.retract(0);
        undone(x, "retract", first, 0);
        x.setTrust(1, 3);
        undone(x, "setTrust", first, 0);
        x.setPeople(1, 3);
        undone(x, "setPeople", first, 0);
        x.setOdds(1, 0);
        undone(x, "setOdds", first, 0);
        AlmanacOffice y = new AlmanacOffice();
        y.pass(200);
        undone(y, "pass", first, 0);
        Check.load(y, "almanac 1 1 1 1;village x 3 3;village y 4 4;village z 5 5;");
        undone(y, "load", first, 0);
        y.save(1);
        y.pass(50);
        String later = Check.stateOf(y);
        y.restore(1);
        undone(y, "restore", later, 1);
        undone(y, "pass before it", first, 0);
        Check.dueThrow("undo of nothing", IllegalStateException.class, () -> y.undo());
        Check.dueText("state after undo of nothing", Check.stateOf(y), first);
        y.setTrust(0, y.trustOf(0));
        Check.due("a call that changes nothing is remembered", y.undo(), 0);
    }

    private static void latestEight() {
        AlmanacOffice x = new AlmanacOffice();
        String[] before = new String[20];
        for (int i = 0; i < 20; i++) {
            before[i] = Check.briefOf(x);
            if (i % 5 == 4) Check.load(x, "almanac " + i + " 5 5 5;village a 9 9;village b 5 5;say a 9 sun;pass 2;");
            else x.pass(1 + i);
        }
        for (int i = 19; i >= 12; i--) {
            Check.due("undo of call " + i, x.undo(), i - 12);
            Check.dueText("state after undo of call " + i, Check.briefOf(x), before[i]);
        }
        Check.dueThrow("undo of a ninth call", IllegalStateException.class, () -> x.undo());
        Check.dueText("state after it", Check.briefOf(x), before[12]);
        x.pass(1);
        x.pass(2);
        Check.due("undo after undo", x.undo(), 1);
        x.setTrust(0, 77);
        Check.due("undo of a new call", x.undo(), 1);
        Check.due("undo of the older one", x.undo(), 0);
        Check.dueText("state at last", Check.briefOf(x), before[12]);
    }

    private static void questionsAreNotRemembered() {
        AlmanacOffice x = new AlmanacOffice();
        Check.stateOf(x);
        x.coinsAfter(5);
        x.trustAfter(0, 5);
        x.tomorrowIn(0);
        x.save(0);
        x.writePage(0);
        x.appendInput(0, 0, 0, 0, 0);
        x.truncateInput(1);
        Check.dueThrow("load with an error", IllegalArgumentException.class, () -> x.load());
        Check.dueThrow("print refused", IllegalStateException.class, () -> x.print(0, 3, 1));
        Check.dueThrow("retract of no page", java.util.NoSuchElementException.class, () -> x.retract(1));
        Check.dueThrow("setTrust out of range", IllegalArgumentException.class, () -> x.setTrust(0, 101));
        Check.dueThrow("setPeople out of range", IllegalArgumentException.class, () -> x.setPeople(0, 0));
        Check.dueThrow("setOdds out of range", IllegalArgumentException.class, () -> x.setOdds(0, 21));
        Check.dueThrow("pass out of range", IllegalArgumentException.class, () -> x.pass(0));
        Check.dueThrow("restore of an empty slot", IllegalStateException.class, () -> x.restore(1));
        Check.dueThrow("undo", IllegalStateException.class, () -> x.undo());
    }

    private static void slots() {
        AlmanacOffice x = new AlmanacOffice();
        String first = Check.stateOf(x);
        for (int slot : new int[] {-1, 2, Integer.MIN_VALUE, Integer.MAX_VALUE}) {
            Check.dueThrow("save " + slot, IndexOutOfBoundsException.class, () -> x.save(slot));
            Check.dueThrow("restore " + slot, IndexOutOfBoundsException.class, () -> x.restore(slot));
        }
        Check.due("save(0)", x.save(0), 3);
        Check.dueText("state after save", Check.stateOf(x), first);
        Check.dueThrow("restore of the other slot", IllegalStateException.class, () -> x.restore(1));
        x.pass(20);
        x.setOdds(2, 13);
        Check.load(x, "almanac 1 1 1 1;village x 3 3;fair y x 4 4 4;say x 5 sun;pass 4;");
        String second = Check.stateOf(x);
        Check.due("save(1)", x.save(1), 4);
        x.pass(7);
        Check.due("restore(0)", x.restore(0), 3);
        Check.dueText("state of slot 0", Check.stateOf(x), first);
        x.print(0, 7, 0);
        x.pass(1);
        Check.due("restore(1)", x.restore(1), 4);
        Check.dueText("state of slot 1", Check.stateOf(x), second);
        Check.due("restore(0) again", x.restore(0), 3);
        Check.dueText("slot 0 keeps its content", Check.stateOf(x), first);
        x.pass(6);
        Check.due("save(0) again", x.save(0), 9);
        x.pass(9);
        Check.due("restore(0) of the new content", x.restore(0), 9);
    }

    private static void slotsAndUndo() {
        AlmanacOffice x = new AlmanacOffice();
        x.pass(2);
        x.save(0);
        x.undo();
        Check.due("day after undo", x.day(), 3);
        Check.due("undo keeps the slots", x.restore(0), 5);
        Check.load(x, "almanac 1 1 1 1;");
        Check.due("load keeps the slots", x.restore(0), 5);
        Check.due("three calls are remembered", x.undo(), 2);
    }
}
