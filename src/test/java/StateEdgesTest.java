import java.util.ArrayList;
import java.util.List;

/** Section 5 of the terms, with promises 1 and 59 to 61: what undo and the slots bring back, and how many calls are remembered. */
final class StateEdgesTest {
    private static final String FIRST = "almanac 7 9 6 5;village bree 40 50;village dale 20 80;fair mart bree 3 30 4;fair wake dale 2 9 7;"
        + "say bree 5 rain;say dale 3 sun;say bree 2 sun;say dale 9 storm;say bree 8 sun;pass 3;";
    private static final String OTHER = "almanac 100 1 2 3;village x 9 8;village bree 7 6;village dale 5 4;fair y x 1 1 1;fair mart bree 2 2 2;fair z dale 3 3 3;"
        + "say x 1 sun;say bree 1 sun;say x 9 rain;say dale 8 storm;pass 2;";

    public static void main(String[] args) {
        newOffice();
        undoableCalls();
        callsThatAreNotRemembered();
        callsThatThrow();
        latestEight();
        loadKeepsThem();
        manyRounds();
        allThatUndoBringsBack();
        notPartOfTheState();
        saving();
        restoring();
        slotsAreCopies();
        restoreIsUndoable();
        Check.end();
    }

    private static void newOffice() {
        Check.about("Before the first successful load the state is that of the text of section 5.");
        AlmanacOffice x = new AlmanacOffice();
        Check.dueText("state", Check.stateOf(x), "3 765 246 2 0 0 w9,4 w6,2 w5,0 v40,55 v20,85 f0,3,30,4 f1,2,9,7 b50,1,22,88 b91,2,9,63 b80,0,8,32 000");
        Check.dueText("state of the text", Check.stateOf(Check.loaded(FIRST)), Check.stateOf(x));
        Check.dueText("page 0", Check.pageText(x, 0), "bree5r dale9t bree8s");
        Check.about("Creates the office with an empty input buffer, no error, an empty output and no saved states.");
        AlmanacOffice y = new AlmanacOffice();
        Check.dueThrow("outputByte(0)", java.util.NoSuchElementException.class, () -> y.outputByte(0));
        Check.due("errorCode", y.errorCode(), 0);
        Check.due("errorPosition", y.errorPosition(), AlmanacOffice.NONE);
        Check.dueThrow("restore(0)", IllegalStateException.class, () -> y.restore(0));
        Check.dueThrow("restore(1)", IllegalStateException.class, () -> y.restore(1));
        Check.dueThrow("undo()", IllegalStateException.class, () -> y.undo());
        Check.dueThrow("truncateInput(1)", IllegalArgumentException.class, () -> y.truncateInput(1));
        Check.due("appendInput", y.appendInput(0, 0, 0, 0, 0), 20);
        Check.about("Two objects have nothing in common.");
        AlmanacOffice z = new AlmanacOffice();
        y.pass(9);
        y.save(0);
        y.print(0, 20, 0);
        y.writePage(0);
        Check.due("errorCode", z.errorCode(), 0);
        Check.due("length", z.truncateInput(0), 0);
        Check.dueText("state", Check.stateOf(z), Check.stateOf(x));
        Check.dueThrow("restore(0)", IllegalStateException.class, () -> z.restore(0));
        Check.dueThrow("undo()", IllegalStateException.class, () -> z.undo());
        Check.dueThrow("outputByte(0)", java.util.NoSuchElementException.class, () -> z.outputByte(0));
    }

    /** The undoable methods, each by a call that changes the first state. */
    private static void undoable(AlmanacOffice x, int method) {
        switch (method) {
            case 0: Check.load(x, OTHER); break;
            case 1: x.print(0, 4, 2); break;
            case 2: x.retract(0); break;
            case 3: x.setTrust(1, 100); break;
            case 4: x.setPeople(1, 99); break;
            case 5: x.setOdds(2, 0); break;
            case 6: x.pass(200); break;
            default: x.restore(1); break;
        }
    }

    private static void undoableCalls() {
        Check.about("Undoable methods are load if the text has no error, and print, retract, setTrust, setPeople, setOdds, pass and restore.");
        for (int method = 0; method <= 7; method++) {
            AlmanacOffice x = new AlmanacOffice();
            x.pass(1);
            x.save(1);
            x.undo();
            String before = Check.stateOf(x);
            undoable(x, method);
            Check.due("method " + method + " changes the state", Check.stateOf(x).equals(before), false);
            Check.due("undo of method " + method, x.undo(), 0);
            Check.dueText("state after undo of method " + method, Check.stateOf(x), before);
            Check.dueThrow("a second undo of method " + method, IllegalStateException.class, () -> x.undo());
            Check.dueText("state after the second undo", Check.stateOf(x), before);
        }
        Check.about("A call that leaves the state as it was is remembered too.");
        AlmanacOffice y = new AlmanacOffice();
        y.setTrust(0, y.trustOf(0));
        y.setPeople(0, y.peopleOf(0));
        y.setOdds(0, y.oddsOf(0));
        y.save(0);
        y.restore(0);
        Check.load(y, FIRST);
        for (int left = 4; left >= 0; left--) Check.due("undo", y.undo(), left);
        Check.dueThrow("undo of nothing", IllegalStateException.class, () -> y.undo());
    }

    private static void callsThatAreNotRemembered() {
        Check.about("No other methods are undoable.");
        AlmanacOffice x = new AlmanacOffice();
        x.pass(1);
        x.setTrust(0, 7);
        x.save(0);
        x.save(1);
        x.appendInput(1, 2, 3, 4, 5);
        x.truncateInput(3);
        x.findName();
        x.writePage(0);
        x.outputByte(0);
        x.coinsAfter(9);
        x.trustAfter(0, 9);
        x.daysUntilEmpty();
        x.tomorrowIn(0);
        x.printRefusal(0, 9);
        x.canRetract(0);
        Check.stateOf(x);
        Check.due("undo of setTrust", x.undo(), 1);
        Check.due("trustOf(0)", x.trustOf(0), 55);
        Check.due("undo is not undoable", x.undo(), 0);
        Check.due("day", x.day(), 3);
        Check.dueThrow("undo of nothing", IllegalStateException.class, () -> x.undo());
    }

    private static void callsThatThrow() {
        Check.about("They are undoable if they throw no exception.");
        AlmanacOffice x = new AlmanacOffice();
        for (int i = 1; i <= 8; i++) x.setTrust(0, i);
        Check.feed(x, "almanac 0 1 0 0;village a 1 1;pass 3;x");
        Check.dueThrow("load", IllegalArgumentException.class, () -> x.load());
        Check.dueThrow("print", IllegalStateException.class, () -> x.print(0, 3, 0));
        Check.dueThrow("print", IllegalArgumentException.class, () -> x.print(0, 4, 3));
        Check.dueThrow("print", IndexOutOfBoundsException.class, () -> x.print(2, 4, 0));
        Check.dueThrow("retract", java.util.NoSuchElementException.class, () -> x.retract(1));
        Check.dueThrow("setTrust", IllegalArgumentException.class, () -> x.setTrust(0, 101));
        Check.dueThrow("setPeople", IllegalArgumentException.class, () -> x.setPeople(0, 100));
        Check.dueThrow("setOdds", IllegalArgumentException.class, () -> x.setOdds(0, 21));
        Check.dueThrow("pass", IllegalArgumentException.class, () -> x.pass(0));
        Check.dueThrow("restore", IllegalStateException.class, () -> x.restore(0));
        for (int i = 7; i >= 0; i--) {
            Check.due("undo", x.undo(), i);
            Check.due("trustOf(0)", x.trustOf(0), i == 0 ? 55 : i);
        }
        AlmanacOffice y = Check.loaded("almanac 0 0 0 1;village a 1 1;say a 1 sun;say a 9 sun;pass 1;");
        Check.dueThrow("retract with debts", IllegalStateException.class, () -> y.retract(0));
        y.undo();
        Check.dueThrow("undo of the refused one", IllegalStateException.class, () -> y.undo());
        AlmanacOffice z = Check.loaded("almanac 0 0 0 1;");
        Check.dueThrow("setOdds of the only one", IllegalStateException.class, () -> z.setOdds(2, 0));
        z.undo();
        Check.dueThrow("undo of the refused one", IllegalStateException.class, () -> z.undo());
    }

    private static void latestEight() {
        Check.about("The latest 8 undoable calls are remembered. undo returns the number of remembered calls that are left.");
        for (int calls = 0; calls <= 20; calls++) {
            AlmanacOffice x = new AlmanacOffice();
            for (int i = 1; i <= calls; i++) x.setTrust(0, i);
            int remembered = Math.min(8, calls);
            for (int i = 1; i <= remembered; i++) {
                Check.due("undo " + i + " of " + calls, x.undo(), remembered - i);
                Check.due("trustOf(0) after it", x.trustOf(0), calls == i ? 55 : calls - i);
            }
            Check.dueThrow("undo beyond " + calls, IllegalStateException.class, () -> x.undo());
            Check.due("trustOf(0) at last", x.trustOf(0), calls == remembered ? 55 : calls - remembered);
            // The room of the calls that were undone is free again.
            for (int i = 1; i <= 9; i++) x.setTrust(0, 50 + i);
            for (int i = 8; i >= 1; i--) {
                Check.due("undo of a new call", x.undo(), i - 1);
                Check.due("trustOf(0) after it", x.trustOf(0), 50 + i);
            }
            Check.dueThrow("undo of the ninth", IllegalStateException.class, () -> x.undo());
        }
    }

    private static void loadKeepsThem() {
        Check.about("load does not discard them.");
        AlmanacOffice x = new AlmanacOffice();
        List<String> before = new ArrayList<>();
        for (int i = 0; i < 12; i++) {
            before.add(Check.briefOf(x));
            if (i % 3 == 1) Check.load(x, i == 4 ? FIRST : OTHER);
            else x.setTrust(1, 30 + i);
        }
        for (int i = 11; i >= 4; i--) {
            Check.due("undo of call " + i, x.undo(), i - 4);
            Check.dueText("state before call " + i, Check.briefOf(x), before.get(i));
        }
        Check.dueThrow("undo of a ninth call", IllegalStateException.class, () -> x.undo());
    }

    /** Calls and undos in turns, so that the calls begin at each place of the room that they are kept in. */
    private static void manyRounds() {
        Check.about("Undo restores the state before the latest remembered call and removes it from the remembered calls.");
        AlmanacOffice x = new AlmanacOffice();
        List<Integer> past = new ArrayList<>();
        int trust = 55;
        for (int i = 0; i < 160; i++) {
            if (i * i % 7 < 4 && i % 50 < 38) {
                past.add(trust);
                if (past.size() > 8) past.remove(0);
                trust = i % 101;
                x.setTrust(0, trust);
            } else if (past.isEmpty()) {
                Check.dueThrow("undo in round " + i, IllegalStateException.class, () -> x.undo());
            } else {
                trust = past.remove(past.size() - 1);
                Check.due("undo in round " + i, x.undo(), past.size());
            }
            Check.due("trustOf(0) in round " + i, x.trustOf(0), trust);
        }
    }

    private static String names(AlmanacOffice x) {
        StringBuilder found = new StringBuilder();
        for (String name : new String[] {"bree", "dale", "mart", "wake", "x", "y", "z"}) {
            x.truncateInput(0);
            Check.feed(x, name);
            found.append(x.findName()).append(' ');
        }
        x.truncateInput(0);
        return found.toString();
    }

    private static void allThatUndoBringsBack() {
        Check.about("The state consists of everything that sections 1 to 3 describe, and of the counters of the questions.");
        String[] texts = {FIRST, OTHER, "almanac 1 2 3 4;", FIRST + "pass 20;say bree 24 sun;say dale 25 rain;pass 1;retract 0;"};
        for (String from : texts) {
            for (String to : texts) {
                AlmanacOffice x = Check.loaded(from);
                String state = Check.stateOf(x);
                String names = names(x);
                int future = x.coinsAfter(30);
                x.save(0);
                Check.load(x, to);
                String later = Check.stateOf(x);
                String laterNames = names(x);
                x.undo();
                Check.dueText("state after undo of load", Check.stateOf(x), state);
                Check.dueText("names after undo of load", names(x), names);
                Check.due("coinsAfter(30) after undo of load", x.coinsAfter(30), future);
                Check.load(x, to);
                Check.due("restore(0)", x.restore(0), x.day());
                Check.dueText("state after restore", Check.stateOf(x), state);
                Check.dueText("names after restore", names(x), names);
                Check.due("coinsAfter(30) after restore", x.coinsAfter(30), future);
                x.undo();
                Check.dueText("state after undo of restore", Check.stateOf(x), later);
                Check.dueText("names after undo of restore", names(x), laterNames);
            }
        }
        // The seed and what was drawn this year, the odds, the order of the book and the ten regrets, after undo of many days.
        AlmanacOffice y = Check.loaded("almanac 0 1 0 0;village a 50 50;fair f a 1 9 1;");
        for (int day = 1; day <= 14; day++) y.print(0, day, day == 3 ? 0 : 1);
        y.pass(11);
        String before = Check.stateOf(y);
        y.pass(40);
        y.undo();
        Check.dueText("state after undo of 40 days", Check.stateOf(y), before);
        Check.due("regrets in the days that are passed again", y.pass(3), 3);
    }

    private static void notPartOfTheState() {
        Check.about("The input buffer, the error, the output and the saved states are not part of the state.");
        AlmanacOffice x = new AlmanacOffice();
        x.save(0);
        x.pass(1);
        x.save(1);
        x.pass(1);
        x.writePage(0);
        Check.feed(x, "almanac 0 1 0 0;y");
        Check.dueThrow("load", IllegalArgumentException.class, () -> x.load());
        Check.feed(x, "almanac 3 1 0 0;");
        for (int i = 0; i < 3; i++) {
            if (i == 0) x.undo();
            if (i == 1) x.restore(0);
            if (i == 2) x.undo();
            Check.due("errorCode", x.errorCode(), 1);
            Check.due("errorPosition", x.errorPosition(), 16);
            Check.due("outputByte(5)", x.outputByte(5), 't');
            Check.dueThrow("length", IllegalArgumentException.class, () -> x.truncateInput(17));
            Check.due("length", x.truncateInput(16), 16);
        }
        Check.due("load of the text that waited", x.load(), 0);
        Check.due("seed of it", x.seed(), 3);
        Check.due("restore(0) after undo", x.restore(0), 3);
        Check.due("restore(1) after undo", x.restore(1), 4);
        Check.due("outputByte(5) after load", x.outputByte(5), 't');
        AlmanacOffice y = new AlmanacOffice();
        y.pass(1);
        y.save(0);
        y.undo();
        Check.due("undo takes no slot away", y.restore(0), 4);
        y.undo();
        Check.due("undo of restore takes no slot away", y.restore(0), 4);
    }

    private static void saving() {
        Check.about("save: 0 or 1; returns the day; IndexOutOfBoundsException if the slot does not exist");
        AlmanacOffice x = new AlmanacOffice();
        for (int slot : new int[] {Integer.MIN_VALUE, -1, 2, 3, Integer.MAX_VALUE}) {
            Check.dueThrow("save(" + slot + ")", IndexOutOfBoundsException.class, () -> x.save(slot));
            Check.dueThrow("restore(" + slot + ")", IndexOutOfBoundsException.class, () -> x.restore(slot));
        }
        Check.dueThrow("restore(0)", IllegalStateException.class, () -> x.restore(0));
        Check.dueThrow("restore(1)", IllegalStateException.class, () -> x.restore(1));
        Check.due("save(1)", x.save(1), 3);
        Check.dueThrow("restore(0), which is still empty", IllegalStateException.class, () -> x.restore(0));
        Check.due("restore(1)", x.restore(1), 3);
        x.pass(1);
        Check.due("save(0)", x.save(0), 4);
        Check.due("restore(1)", x.restore(1), 3);
        Check.due("restore(0)", x.restore(0), 4);
        Check.about("save: the previous content of the slot is discarded.");
        x.pass(5);
        Check.due("save(0) again", x.save(0), 9);
        x.pass(5);
        Check.due("restore(0)", x.restore(0), 9);
        Check.due("restore(1) is as before", x.restore(1), 3);
    }

    private static void restoring() {
        Check.about("restore: returns the day afterwards. The slot keeps its content.");
        AlmanacOffice x = new AlmanacOffice();
        x.save(0);
        String before = Check.stateOf(x);
        for (int i = 0; i < 4; i++) {
            if (i == 0) Check.load(x, OTHER);
            if (i == 1) x.pass(200);
            if (i == 2) x.retract(0);
            if (i == 3) x.setTrust(0, 1);
            Check.due("restore(0)", x.restore(0), 3);
            Check.dueText("state", Check.stateOf(x), before);
        }
        Check.due("restore(0) twice", x.restore(0), 3);
        Check.due("seven calls and two more: eight are remembered", x.undo(), 7);
    }

    private static void slotsAreCopies() {
        Check.about("save: a copy of the state.");
        AlmanacOffice x = new AlmanacOffice();
        x.save(0);
        x.save(1);
        String before = Check.stateOf(x);
        x.setTrust(0, 9);
        x.setPeople(1, 99);
        x.setOdds(0, 1);
        x.print(1, 10, 1);
        x.pass(2);
        x.restore(0);
        Check.dueText("state of slot 0", Check.stateOf(x), before);
        x.setTrust(1, 9);
        x.print(0, 11, 1);
        x.pass(3);
        x.restore(0);
        Check.dueText("state of slot 0 after changes", Check.stateOf(x), before);
        x.pass(3);
        x.save(0);
        x.restore(1);
        Check.dueText("state of slot 1", Check.stateOf(x), before);
        x.undo();
        Check.due("day after undo", x.day(), 6);
    }

    private static void restoreIsUndoable() {
        Check.about("restore is undoable; what was remembered before it stays.");
        AlmanacOffice x = new AlmanacOffice();
        x.save(0);
        x.pass(1);
        x.pass(2);
        x.restore(0);
        x.pass(4);
        Check.due("undo of pass(4)", x.undo() * 100 + x.day(), 303);
        Check.due("undo of restore", x.undo() * 100 + x.day(), 206);
        Check.due("undo of pass(2)", x.undo() * 100 + x.day(), 104);
        Check.due("undo of pass(1)", x.undo() * 100 + x.day(), 3);
        Check.dueThrow("undo of nothing", IllegalStateException.class, () -> x.undo());
        Check.about("Throws IllegalStateException if the slot is empty: slot 1 still is.");
        Check.dueThrow("restore(1)", IllegalStateException.class, () -> x.restore(1));
    }
}
