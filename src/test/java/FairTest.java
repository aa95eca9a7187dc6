/** Promises 16 to 20, 27, 28, 45 to 47, 54: fairs and what they sell. */
final class FairTest {
    public static void main(String[] args) {
        rows();
        daysUntil();
        selling();
        order();
        bestSellers();
        numbersCount();
        people();
        Check.end();
    }

    private static void rows() {
        AlmanacOffice x = Check.loaded("almanac 0 1 0 0;village a 1 1;village b 1 1;fair f b 12 99 20;fair g a 1 2 3;");
        Check.due("fairVillage(0)", x.fairVillage(0), 1);
        Check.due("periodOf(0)", x.periodOf(0), 12);
        Check.due("stockOf(0)", x.stockOf(0), 99);
        Check.due("priceOf(0)", x.priceOf(0), 20);
        Check.due("fairVillage(1)", x.fairVillage(1), 0);
        Check.due("periodOf(1)", x.periodOf(1), 1);
        Check.due("stockOf(1)", x.stockOf(1), 2);
        Check.due("priceOf(1)", x.priceOf(1), 3);
        for (int fair : new int[] {-1, 2, 6, Integer.MIN_VALUE, Integer.MAX_VALUE}) {
            Check.dueThrow("fairVillage " + fair, IndexOutOfBoundsException.class, () -> x.fairVillage(fair));
            Check.dueThrow("periodOf " + fair, IndexOutOfBoundsException.class, () -> x.periodOf(fair));
            Check.dueThrow("stockOf " + fair, IndexOutOfBoundsException.class, () -> x.stockOf(fair));
            Check.dueThrow("priceOf " + fair, IndexOutOfBoundsException.class, () -> x.priceOf(fair));
            Check.dueThrow("daysUntilFair " + fair, IndexOutOfBoundsException.class, () -> x.daysUntilFair(fair));
        }
    }

    private static void daysUntil() {
        AlmanacOffice x = Check.loaded("almanac 0 1 0 0;village a 1 1;fair f a 3 1 1;fair g a 3 1 1;fair h a 1 1 1;fair i a 12 1 1;");
        int[][] want = {{3, 2, 1, 9}, {2, 1, 1, 8}, {1, 3, 1, 7}, {3, 2, 1, 6}};
        for (int day = 0; day < want.length; day++) {
            for (int fair = 0; fair < 4; fair++) {
                Check.due("daysUntilFair(" + fair + ") on day " + day, x.daysUntilFair(fair), want[day][fair]);
            }
            x.pass(1);
        }
        x.pass(5);
        Check.due("daysUntilFair(3) on its day", x.daysUntilFair(3), 12);
    }

    private static void sale(AlmanacOffice x, String when, int village, int day, int sold, int paid) {
        Check.due("soldOf(" + village + ", " + day + ") " + when, x.soldOf(village, day), sold);
        Check.due("paidOf(" + village + ", " + day + ") " + when, x.paidOf(village, day), paid);
    }

    private static void noDifferences(AlmanacOffice x, String when) {
        Check.due("copyDifference " + when, x.copyDifference(), 0);
        Check.due("coinDifference " + when, x.coinDifference(), 0);
        Check.due("bookErrors " + when, x.bookErrors(), 0);
    }

    private static void selling() {
        AlmanacOffice x = Check.loaded("almanac 0 1 0 0;village a 50 50;village b 10 99;fair f a 2 30 3;fair g a 1 5 7;"
            + "say a 3 sun;say a 2 sun;say b 4 rain;");
        Check.due("bestSeller before any sale", x.bestSeller(), 30);
        sale(x, "at first", 0, 3, 0, 0);
        x.pass(1);
        // The fair g sells all of its 5 copies with the first forecast.
        sale(x, "on day 1", 0, 3, 5, 35);
        sale(x, "on day 1", 0, 2, 0, 0);
        noDifferences(x, "on day 1");
        x.pass(1);
        // The fair f sells (50 - 5) * 50 / 100 copies, then g 5 more; nothing is sold for the present day.
        sale(x, "on day 2", 0, 3, 32, 136);
        sale(x, "on day 2", 1, 4, 0, 0);
        Check.due("coins on day 2", x.coins(), 136);
        Check.due("bestSeller on day 2", x.bestSeller(), 30);
        Check.due("trustOf(0) on day 2", x.trustOf(0), 55);
        noDifferences(x, "on day 2");
        x.pass(2);
        Check.due("coins on day 4", x.coins(), 136);
        Check.due("trustOf(0) on day 4", x.trustOf(0), 60);
        Check.due("trustOf(1) on day 4", x.trustOf(1), 89);
        Check.due("bestSeller of an empty book", x.bestSeller(), -1);
        noDifferences(x, "on day 4");
    }

    private static void order() {
        // The order of the book counts, not that of the days: what is left of the stock goes on to the next one.
        AlmanacOffice x = Check.loaded("almanac 0 1 0 0;village a 10 50;fair f a 1 12 2;say a 9 sun;say a 4 sun;say a 6 sun;say a 5 sun;pass 1;");
        sale(x, "first", 0, 9, 5, 10);
        sale(x, "second", 0, 4, 5, 10);
        sale(x, "third", 0, 6, 2, 4);
        sale(x, "fourth", 0, 5, 0, 0);
        Check.due("bestSeller, the first one of two", x.bestSeller(), 90);
        x.pass(1);
        // The stock is full again: (10 - 5) * 50 / 100 is 2, (10 - 2) * 50 / 100 is 4.
        sale(x, "first again", 0, 9, 7, 14);
        sale(x, "second again", 0, 4, 7, 14);
        sale(x, "third again", 0, 6, 6, 12);
        sale(x, "fourth again", 0, 5, 4, 8);
        Check.due("coins", x.coins(), 48);
        x.print(0, 32, 0);
        x.setTrust(0, 100);
        x.pass(1);
        sale(x, "with full trust", 0, 9, 10, 20);
        sale(x, "with full trust", 0, 32, 0, 0);
        x.pass(1);
        // The forecast of day 5 had 6 copies and takes the other 4 of the 12; 8 are left for the last one.
        sale(x, "behind sold out ones", 0, 32, 8, 16);
        Check.due("bestSeller, still the first one", x.bestSeller(), 90);
    }

    private static void bestSellers() {
        AlmanacOffice x = Check.loaded("almanac 0 1 0 0;village a 10 50;village b 80 50;fair f b 1 99 2;say a 9 sun;say b 8 sun;pass 1;");
        Check.due("bestSeller, the second one", x.bestSeller(), 81);
        x.print(1, 30, 0);
        x.setPeople(1, 99);
        x.setTrust(1, 100);
        x.pass(1);
        Check.due("bestSeller, still the second one", x.bestSeller(), 81);
        x.pass(6);
        Check.due("bestSeller, when it is gone", x.bestSeller(), 301);
    }

    /** Fair 1 with a period of 4 days is held on days 3 and 7. */
    private static void numbersCount() {
        AlmanacOffice x = Check.loaded("almanac 0 1 0 0;village a 90 50;village b 1 1;fair f b 12 1 1;fair g a 4 10 1;say a 9 sun;");
        int[] sold = {0, 0, 0, 10, 10, 10, 10, 20, 20};
        for (int day = 1; day < sold.length; day++) {
            x.pass(1);
            sale(x, "on day " + day, 0, 9, sold[day], sold[day]);
        }
    }

    private static void people() {
        AlmanacOffice x = Check.loaded("almanac 0 1 0 0;village a 40 100;fair f a 1 30 1;say a 9 sun;pass 1;");
        sale(x, "at first", 0, 9, 30, 30);
        Check.due("setPeople", x.setPeople(0, 20), 40);
        x.pass(1);
        sale(x, "with fewer people", 0, 9, 30, 30);
        x.setPeople(0, 30);
        x.pass(1);
        sale(x, "with as many people", 0, 9, 30, 30);
        x.setPeople(0, 33);
        x.setTrust(0, 34);
        x.pass(1);
        sale(x, "with 3 * 34 / 100 more", 0, 9, 31, 31);
        x.setTrust(0, 0);
        x.pass(1);
        sale(x, "without trust", 0, 9, 31, 31);
        noDifferences(x, "after all");
    }
}
