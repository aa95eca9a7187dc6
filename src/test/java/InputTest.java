/** Promises 1 to 3, 5, 6 and 12: a new object, the input buffer and names. */
final class InputTest {
    public static void main(String[] args) {
        newOffice();
        byteOrder();
        fullBuffer();
        truncating();
        names();
        Check.end();
    }

    private static void newOffice() {
        AlmanacOffice x = new AlmanacOffice();
        Check.due("NONE", AlmanacOffice.NONE, -1);
        Check.due("SUN", AlmanacOffice.SUN, 0);
        Check.due("RAIN", AlmanacOffice.RAIN, 1);
        Check.due("STORM", AlmanacOffice.STORM, 2);
        Check.dueText("a new state", Check.stateOf(x), Check.stateOf(Check.loaded(
            "almanac 7 9 6 5;village bree 40 50;village dale 20 80;fair mart bree 3 30 4;fair wake dale 2 9 7;"
            + "say bree 5 rain;say dale 3 sun;say bree 2 sun;say dale 9 storm;say bree 8 sun;pass 3;")));
        Check.due("new day", x.day(), 3);
        Check.due("new seed", x.seed(), 765);
        Check.due("new coins", x.coins(), 246);
        Check.due("new hits", x.hits(), 2);
        Check.due("new errorCode", x.errorCode(), 0);
        Check.due("new errorPosition", x.errorPosition(), -1);
        Check.dueThrow("new truncateInput(1)", IllegalArgumentException.class, () -> x.truncateInput(1));
        Check.due("new truncateInput(0)", x.truncateInput(0), 0);
        Check.dueThrow("new outputByte(0)", java.util.NoSuchElementException.class, () -> x.outputByte(0));
        Check.dueThrow("new restore(0)", IllegalStateException.class, () -> x.restore(0));
        Check.dueThrow("new restore(1)", IllegalStateException.class, () -> x.restore(1));
        Check.dueThrow("new undo()", IllegalStateException.class, () -> x.undo());
    }

    private static void byteOrder() {
        AlmanacOffice x = new AlmanacOffice();
        Check.due("append one argument each", x.appendInput('a' << 24 | 'l' << 16 | 'm' << 8 | 'a', 'n' << 24 | 'a' << 16 | 'c' << 8 | ' ',
            '5' << 24 | ' ' << 16 | '1' << 8 | ' ', '2' << 24 | ' ' << 16 | '3' << 8 | ';', '\n' << 24 | 'p' << 16 | 'a' << 8 | 's'), 20);
        Check.due("append more", x.appendInput('s' << 24 | '1' << 16 | ';' << 8, 0, 0, 0, 0), 40);
        x.truncateInput(23);
        Check.due("load of 23 bytes", x.load(), 0);
        Check.due("day", x.day(), 1);
        Check.due("odds", x.oddsOf(0) * 100 + x.oddsOf(1) * 10 + x.oddsOf(2), 123);
        AlmanacOffice y = Check.loaded("almanac 0 1 0 0;");
        Check.feed(y, "almanac 0 1 0 0;\u00ff");
        Check.dueThrow("load of byte 255", IllegalArgumentException.class, () -> y.load());
        Check.due("a byte above 127 is a token of its own", y.errorCode() * 100 + y.errorPosition(), 116);
    }

    private static void fullBuffer() {
        AlmanacOffice x = new AlmanacOffice();
        for (int i = 1; i <= 30; i++) Check.due("append " + i, x.appendInput(-1, 0, 1 << 31, 7, i), 20 * i);
        Check.dueThrow("append beyond 600", IllegalStateException.class, () -> x.appendInput(1, 2, 3, 4, 5));
        Check.dueThrow("truncate beyond the length", IllegalArgumentException.class, () -> x.truncateInput(601));
        Check.due("truncate to the length", x.truncateInput(600), 600);
        x.truncateInput(581);
        Check.dueThrow("append to 601", IllegalStateException.class, () -> x.appendInput(1, 2, 3, 4, 5));
        Check.due("length is still 581", x.truncateInput(581), 581);
        x.truncateInput(580);
        Check.due("append to 600", x.appendInput(1, 2, 3, 4, 5), 600);
    }

    private static void truncating() {
        AlmanacOffice x = new AlmanacOffice();
        x.appendInput(0, 0, 0, 0, 0);
        Check.dueThrow("truncateInput(-1)", IllegalArgumentException.class, () -> x.truncateInput(-1));
        Check.dueThrow("truncateInput(min)", IllegalArgumentException.class, () -> x.truncateInput(Integer.MIN_VALUE));
        Check.dueThrow("truncateInput(21)", IllegalArgumentException.class, () -> x.truncateInput(21));
        Check.dueThrow("truncateInput(max)", IllegalArgumentException.class, () -> x.truncateInput(Integer.MAX_VALUE));
        Check.due("truncateInput(20)", x.truncateInput(20), 20);
        Check.due("truncateInput(3)", x.truncateInput(3), 3);
        Check.dueThrow("truncateInput(4) after 3", IllegalArgumentException.class, () -> x.truncateInput(4));
        Check.due("append behind what is left", x.appendInput(0, 0, 0, 0, 0), 23);
    }

    private static void names() {
        AlmanacOffice x = Check.loaded("almanac 0 1 1 1;village d 1 1;village abcd 1 1;fair say d 1 1 1;fair sun abcd 1 1 1;");
        found(x, "d", 0);
        found(x, "abcd", 1);
        found(x, "say", 100);
        found(x, "sun", 101);
        String[] unknown = {"", "a", "abc", "abcde", "bcd", "D", " d", "d ", "d\n", "\0d", "d\0", "dd", "sa", "say;", "sunn", "dabcd", "\0\0\0d"};
        for (String name : unknown) found(x, name, -1);
        Check.feed(x, "abcd");
        x.findName();
        Check.due("findName keeps the buffer", x.truncateInput(4), 4);
        x.undo();
        Check.due("names are part of the state", x.findName(), -1);
    }

    private static void found(AlmanacOffice x, String name, int want) {
        x.truncateInput(0);
        Check.feed(x, name);
        Check.due("findName of '" + name + "'", x.findName(), want);
        x.truncateInput(0);
    }
}
