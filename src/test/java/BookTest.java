import java.util.NoSuchElementException;

/** Promises 15, 24 to 34, 48, 51, 52, 57 and 58: forecasts, pages, printing, retracting and writing. */
final class BookTest {
    private static final int[] EXTREMES = {Integer.MIN_VALUE, Integer.MAX_VALUE};

    public static void main(String[] args) {
        questions();
        wrongQuestions();
        refusals();
        fullBook();
        retracting();
        refusedRetraction();
        writing();
        Check.end();
    }

    private static AlmanacOffice example() {
        return Check.loaded("almanac 0 1 0 0;village a 50 50;village bcde 20 8;fair f a 1 9 2;fair g bcde 1 3 5;"
            + "say a 9 rain;say bcde 9 sun;say a 30 storm;say bcde 12 rain;say a 5 sun;");
    }

    private static void questions() {
        AlmanacOffice x = example();
        Check.due("forecastCount", x.forecastCount(), 5);
        Check.due("forecastsFor(0)", x.forecastsFor(0), 3);
        Check.due("forecastsFor(1)", x.forecastsFor(1), 2);
        Check.due("pageCount", x.pageCount(), 2);
        int[][] rows = {{0, 9, 1}, {1, 9, 0}, {0, 30, 2}, {1, 12, 1}, {0, 5, 0}};
        for (int place = 0; place < rows.length; place++) {
            int village = rows[place][0];
            int day = rows[place][1];
            String which = "(" + village + ", " + day + ")";
            Check.due("hasForecast" + which, x.hasForecast(village, day), true);
            Check.due("hasForecast of the other village", x.hasForecast(1 - village, day), day == 9);
            Check.due("weatherOf" + which, x.weatherOf(village, day), rows[place][2]);
            Check.due("soldOf" + which, x.soldOf(village, day), 0);
            Check.due("paidOf" + which, x.paidOf(village, day), 0);
            Check.due("pageOf" + which, x.pageOf(village, day), place / 4);
            Check.due("forecastAt(" + place + ")", x.forecastAt(place), 10 * day + village);
        }
        x.pass(1);
        Check.due("soldOf(0, 9)", x.soldOf(0, 9), 9);
        Check.due("paidOf(0, 9)", x.paidOf(0, 9), 18);
        Check.due("soldOf(1, 9)", x.soldOf(1, 9), 1);
        Check.due("paidOf(1, 9)", x.paidOf(1, 9), 5);
        Check.due("soldOf(1, 12)", x.soldOf(1, 12), 1);
        Check.due("refundOf(0)", x.refundOf(0), 28);
        Check.due("refundOf(1)", x.refundOf(1), 0);
        Check.due("canRetract(0)", x.canRetract(0), true);
        x.pass(4);
        Check.due("hasForecast of a past day", x.hasForecast(0, 5), false);
        Check.due("forecastCount without it", x.forecastCount(), 4);
        Check.due("pageCount without it", x.pageCount(), 1);
        x.pass(4);
        Check.due("forecastAt moves up", x.forecastAt(0), 300);
        Check.due("pages are counted anew", x.pageOf(1, 12), 0);
        Check.due("bookErrors", x.bookErrors(), 0);
    }

    private static void wrongQuestions() {
        AlmanacOffice x = example();
        String before = Check.stateOf(x);
        for (int village : new int[] {-1, 2, 6, EXTREMES[0], EXTREMES[1]}) {
            Check.dueThrow("forecastsFor " + village, IndexOutOfBoundsException.class, () -> x.forecastsFor(village));
            Check.dueThrow("hasForecast " + village, IndexOutOfBoundsException.class, () -> x.hasForecast(village, 9));
            Check.dueThrow("weatherOf " + village, IndexOutOfBoundsException.class, () -> x.weatherOf(village, 9));
            Check.dueThrow("soldOf " + village, IndexOutOfBoundsException.class, () -> x.soldOf(village, -9));
            Check.dueThrow("paidOf " + village, IndexOutOfBoundsException.class, () -> x.paidOf(village, 9));
            Check.dueThrow("pageOf " + village, IndexOutOfBoundsException.class, () -> x.pageOf(village, 9));
            Check.dueThrow("printRefusal " + village, IndexOutOfBoundsException.class, () -> x.printRefusal(village, 9));
            Check.dueThrow("print " + village, IndexOutOfBoundsException.class, () -> x.print(village, 0, 3));
        }
        for (int day : new int[] {-1, 0, 10, 31, EXTREMES[0], EXTREMES[1]}) {
            Check.due("hasForecast of day " + day, x.hasForecast(0, day), false);
            Check.dueThrow("weatherOf day " + day, NoSuchElementException.class, () -> x.weatherOf(0, day));
            Check.dueThrow("soldOf day " + day, NoSuchElementException.class, () -> x.soldOf(0, day));
            Check.dueThrow("paidOf day " + day, NoSuchElementException.class, () -> x.paidOf(0, day));
            Check.dueThrow("pageOf day " + day, NoSuchElementException.class, () -> x.pageOf(0, day));
        }
        for (int page : new int[] {-1, 2, 8, 1 << 30, EXTREMES[0], EXTREMES[1]}) {
            Check.dueThrow("refundOf " + page, NoSuchElementException.class, () -> x.refundOf(page));
            Check.dueThrow("canRetract " + page, NoSuchElementException.class, () -> x.canRetract(page));
            Check.dueThrow("retract " + page, NoSuchElementException.class, () -> x.retract(page));
            Check.dueThrow("writePage " + page, NoSuchElementException.class, () -> x.writePage(page));
        }
        for (int place : new int[] {-1, 5, 30, EXTREMES[0], EXTREMES[1]}) {
            Check.dueThrow("forecastAt " + place, NoSuchElementException.class, () -> x.forecastAt(place));
        }
        Check.dueText("state after wrong questions", Check.stateOf(x), before);
    }

    private static void refusals() {
        AlmanacOffice x = Check.loaded("almanac 0 1 0 0;village a 50 50;village b 5 5;pass 10;");
        int[][] rows = {{EXTREMES[0], 1}, {-1, 1}, {0, 1}, {10, 1}, {11, 0}, {40, 0}, {41, 1}, {EXTREMES[1], 1}};
        for (int[] row : rows) {
            Check.due("printRefusal of day " + row[0], x.printRefusal(0, row[0]), row[1]);
            if (row[1] == 1) Check.dueThrow("print of day " + row[0], IllegalStateException.class, () -> x.print(0, row[0], 0));
        }
        Check.due("print", x.print(0, 11, 0), 0);
        Check.due("printRefusal of the same", x.printRefusal(0, 11), 2);
        Check.dueThrow("print of the same", IllegalStateException.class, () -> x.print(0, 11, 1));
        Check.due("printRefusal of the other village", x.printRefusal(1, 11), 0);
        for (int weather : new int[] {-1, 3, EXTREMES[0], EXTREMES[1]}) {
            Check.dueThrow("print of weather " + weather, IllegalArgumentException.class, () -> x.print(1, 12, weather));
            Check.dueThrow("print of weather " + weather + ", refused too", IllegalArgumentException.class, () -> x.print(0, 11, weather));
        }
        Check.due("forecastCount", x.forecastCount(), 1);
        Check.due("weatherOf", x.weatherOf(0, 11), 0);
        Check.due("calls that threw are not remembered", x.undo(), 1);
        x.print(0, 40, 2);
        x.pass(29);
        Check.due("a forecast stays until its day", x.hasForecast(0, 40), true);
        x.pass(1);
        Check.due("a forecast leaves on its day", x.hasForecast(0, 40), false);
    }

    private static void fullBook() {
        AlmanacOffice x = Check.loaded("almanac 0 1 0 0;village a 50 50;village b 5 5;");
        for (int i = 0; i < 30; i++) {
            Check.due("printRefusal before print " + i, x.printRefusal(0, 1 + i), 0);
            Check.due("print " + i, x.print(0, 1 + i, i % 3), i / 4);
        }
        Check.due("forecastCount", x.forecastCount(), 30);
        Check.due("pageCount", x.pageCount(), 8);
        Check.due("printRefusal of a full book", x.printRefusal(1, 1), 3);
        Check.due("printRefusal, day first", x.printRefusal(1, 31), 1);
        Check.due("printRefusal, double before full", x.printRefusal(0, 1), 2);
        Check.dueThrow("print into a full book", IllegalStateException.class, () -> x.print(1, 1, 0));
        Check.due("forecastAt(29)", x.forecastAt(29), 300);
        Check.due("pageOf(0, 30)", x.pageOf(0, 30), 7);
        Check.due("retract of the last page", x.retract(7), 0);
        Check.due("forecastCount after it", x.forecastCount(), 28);
        Check.due("print again", x.print(1, 1, 0), 7);
    }

    private static void retracting() {
        AlmanacOffice x = example();
        x.pass(1);
        // 9 copies of the first, 1 of each of village 1; then stock is gone.
        Check.due("coins", x.coins(), 28);
        Check.due("retract(0)", x.retract(0), 28);
        Check.due("coins after it", x.coins(), 0);
        Check.due("retractions", x.retractions(), 4);
        Check.due("trustOf(0)", x.trustOf(0), 40);
        Check.due("trustOf(1), not below 0", x.trustOf(1), 0);
        Check.due("forecastCount", x.forecastCount(), 1);
        Check.due("forecastAt(0)", x.forecastAt(0), 50);
        Check.due("weatherOf(0, 5)", x.weatherOf(0, 5), 0);
        Check.due("pageCount", x.pageCount(), 1);
        Check.due("copyDifference", x.copyDifference(), 0);
        Check.due("coinDifference", x.coinDifference(), 0);
        Check.due("hits are not touched", x.hits() + x.regrets(), 0);
        Check.due("a retracted forecast can be printed again", x.print(0, 9, 2), 0);
        Check.due("it is a new one", x.soldOf(0, 9), 0);
        // A page in the middle leaves the ones before and behind it.
        AlmanacOffice y = Check.loaded("almanac 0 1 0 0;village a 50 50;say a 1 sun;say a 2 rain;say a 3 sun;say a 4 sun;say a 5 sun;"
            + "say a 6 sun;say a 7 sun;say a 8 sun;say a 9 storm;retract 1;");
        Check.due("retractions of the text", y.retractions(), 4);
        Check.due("place 3", y.forecastAt(3), 40);
        Check.due("place 4", y.forecastAt(4), 90);
        Check.due("weather of place 4", y.weatherOf(0, 9), 2);
        Check.due("trust", y.trustOf(0), 30);
    }

    private static void refusedRetraction() {
        // 50 * 20 coins are earned and 1010 paid back.
        AlmanacOffice x = Check.loaded("almanac 0 0 0 1;village a 50 100;fair f a 1 50 20;say a 2 sun;pass 2;");
        Check.due("coins", x.coins(), -10);
        x.setPeople(0, 1);
        x.setTrust(0, 100);
        x.print(0, 5, 0);
        Check.due("refundOf(0)", x.refundOf(0), 0);
        Check.due("canRetract with debts", x.canRetract(0), false);
        Check.dueThrow("retract with debts", IllegalStateException.class, () -> x.retract(0));
        Check.due("the forecast stays", x.forecastCount(), 1);
        x.pass(1);
        Check.due("coins", x.coins(), 10);
        Check.due("refundOf(0) after a sale", x.refundOf(0), 20);
        Check.due("canRetract with too few coins", x.canRetract(0), false);
        Check.dueThrow("retract with too few coins", IllegalStateException.class, () -> x.retract(0));
        Check.due("coins are kept", x.coins(), 10);
        Check.due("trust is kept", x.trustOf(0), 100);
        // The second sale brings just the coins that both forecasts are worth, less the 10 of the debt.
        AlmanacOffice y = Check.loaded("almanac 0 0 0 1;village a 1 100;fair f a 1 50 10;say a 2 storm;say a 9 sun;pass 2;");
        Check.due("coins of two copies", y.coins(), 20);
        y.setOdds(0, 1);
        y.setOdds(2, 0);
        y.print(0, 10, 1);
        y.print(0, 3, 1);
        y.pass(1);
        Check.due("coins after a regret", y.coins(), 30);
        Check.due("refundOf", y.refundOf(0), 20);
        Check.due("canRetract", y.canRetract(0), true);
        AlmanacOffice z = Check.loaded("almanac 0 1 0 0;village a 1 100;fair f a 1 50 10;say a 9 sun;pass 1;");
        Check.due("just enough coins", z.coins() - z.refundOf(0), 0);
        Check.due("canRetract with just enough coins", z.canRetract(0), true);
        Check.due("retract with just enough coins", z.retract(0), 10);
    }

    private static void writing() {
        AlmanacOffice x = example();
        Check.dueText("page 0", Check.pageText(x, 0), "a9r bcde9s a30t bcde12r");
        Check.due("length of page 0", x.writePage(0), 23);
        Check.due("outputByte(0)", x.outputByte(0), 'a');
        Check.due("outputByte(3)", x.outputByte(3), ' ');
        Check.dueText("page 1", Check.pageText(x, 1), "a5s");
        Check.dueThrow("outputByte(3)", NoSuchElementException.class, () -> x.outputByte(3));
        for (int position : new int[] {-1, 600, EXTREMES[0], EXTREMES[1]}) {
            Check.dueThrow("outputByte " + position, NoSuchElementException.class, () -> x.outputByte(position));
        }
        Check.dueThrow("writePage(2)", NoSuchElementException.class, () -> x.writePage(2));
        Check.due("a call that throws keeps the output", x.outputByte(1), '5');
        x.retract(0);
        x.undo();
        x.undo();
        Check.due("undo keeps the output", x.outputByte(2), 's');
        AlmanacOffice y = Check.loaded("almanac 0 1 0 0;village abcd 1 1;pass 200;pass 200;pass 200;pass 200;pass 200;pass 200;");
        y.print(0, 1230, 2);
        y.print(0, 1201, 1);
        Check.dueText("long days", Check.pageText(y, 0), "abcd1230t abcd1201r");
        for (int i = 0; i < 50; i++) y.pass(200);
        y.print(0, 11230, 0);
        Check.dueText("longer days", Check.pageText(y, 0), "abcd11230s");
        AlmanacOffice z = Check.loaded("almanac 0 1 0 0;village a 1 1;pass 99;");
        z.print(0, 100, 0);
        Check.dueText("zeros in days", Check.pageText(z, 0), "a100s");
    }
}
