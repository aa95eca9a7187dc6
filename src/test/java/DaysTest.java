/** Promises 14, 37 to 44, 46 to 50 and 56: days that pass, and that would pass. */
final class DaysTest {
    public static void main(String[] args) {
        hit();
        regretOfSunAndRain();
        regretOfStorm();
        limitsOfTrust();
        memory();
        wrongDays();
        future();
        shares();
        counters();
        Check.end();
    }

    private static void result(AlmanacOffice x, String when, int hits, int regrets, int coins, int trust) {
        Check.due("hits " + when, x.hits(), hits);
        Check.due("regrets " + when, x.regrets(), regrets);
        Check.due("coins " + when, x.coins(), coins);
        Check.due("trustOf(0) " + when, x.trustOf(0), trust);
        Check.due("copyDifference " + when, x.copyDifference(), 0);
        Check.due("coinDifference " + when, x.coinDifference(), 0);
        Check.due("forecastCount " + when, x.forecastCount(), 0);
    }

    private static void hit() {
        AlmanacOffice x = Check.loaded("almanac 0 0 1 0;village a 9 50;fair f a 1 3 5;say a 2 rain;");
        Check.due("pass of a hit", x.pass(2), 0);
        result(x, "of a hit", 1, 0, 15, 55);
        Check.due("regretCount of a hit", x.regretCount(), 0);
    }

    private static void regretOfSunAndRain() {
        AlmanacOffice x = Check.loaded("almanac 0 1 0 0;village a 9 50;fair f a 1 3 5;say a 2 storm;");
        Check.due("pass of a regret", x.pass(2), 1);
        // 15 coins were paid, 7 are paid back.
        result(x, "of a regret", 0, 1, 8, 40);
        Check.due("regretAt(0)", x.regretAt(0), 20);
        AlmanacOffice y = Check.loaded("almanac 0 0 1 0;village a 9 50;fair f a 1 3 5;say a 2 sun;");
        y.pass(2);
        result(y, "of a regret in the rain", 0, 1, 8, 40);
    }

    private static void regretOfStorm() {
        AlmanacOffice x = Check.loaded("almanac 0 0 0 1;village a 9 50;fair f a 1 3 5;say a 2 rain;");
        Check.due("pass of a regret in a storm", x.pass(2), 1);
        result(x, "of a regret in a storm", 0, 1, -10, 30);
        AlmanacOffice y = Check.loaded("almanac 0 0 0 1;village a 9 50;fair f a 1 3 5;say a 2 storm;");
        Check.due("pass of a storm that was foreseen", y.pass(2), 0);
        result(y, "of a storm that was foreseen", 1, 0, 15, 55);
    }

    private static void limitsOfTrust() {
        AlmanacOffice x = Check.loaded("almanac 0 1 0 0;village a 1 96;say a 1 sun;pass 1;");
        result(x, "near 100", 1, 0, 0, 100);
        AlmanacOffice y = Check.loaded("almanac 0 1 0 0;village a 1 9;say a 1 rain;pass 1;");
        result(y, "near 0", 0, 1, 0, 0);
        AlmanacOffice z = Check.loaded("almanac 0 0 0 1;village a 1 19;say a 1 rain;pass 1;");
        result(z, "near 0 in a storm", 0, 1, -10, 0);
    }

    private static void memory() {
        AlmanacOffice x = Check.loaded("almanac 0 1 0 0;village a 1 1;village b 1 1;");
        for (int day = 1; day <= 6; day++) {
            x.print(1, day, 1);
            x.print(0, day, 2);
        }
        Check.due("pass to four regrets", x.pass(2), 4);
        Check.due("regretCount", x.regretCount(), 4);
        int[] four = {10, 11, 20, 21};
        for (int i = 0; i < 4; i++) Check.due("regretAt(" + i + ") of 4", x.regretAt(i), four[i]);
        Check.dueThrow("regretAt(4)", IndexOutOfBoundsException.class, () -> x.regretAt(4));
        Check.dueThrow("regretAt(-1)", IndexOutOfBoundsException.class, () -> x.regretAt(-1));
        Check.due("pass to ten regrets", x.pass(3), 6);
        Check.due("regretCount of ten", x.regretCount(), 10);
        Check.due("regretAt(0) of ten", x.regretAt(0), 10);
        x.pass(1);
        Check.due("regretCount of twelve", x.regretCount(), 10);
        Check.due("regrets of twelve", x.regrets(), 12);
        for (int i = 0; i < 10; i++) Check.due("regretAt(" + i + ") of 12", x.regretAt(i), 20 + 10 * (i / 2) + i % 2);
        for (int index : new int[] {10, -1, Integer.MIN_VALUE, Integer.MAX_VALUE}) {
            Check.dueThrow("regretAt " + index, IndexOutOfBoundsException.class, () -> x.regretAt(index));
        }
        x.undo();
        Check.due("regretCount after undo", x.regretCount(), 10);
        Check.due("regretAt(0) after undo", x.regretAt(0), 10);
    }

    private static void wrongDays() {
        AlmanacOffice x = new AlmanacOffice();
        String before = Check.stateOf(x);
        for (int days : new int[] {-1, 201, Integer.MIN_VALUE, Integer.MAX_VALUE}) {
            Check.dueThrow("pass " + days, IllegalArgumentException.class, () -> x.pass(days));
            Check.dueThrow("coinsAfter " + days, IllegalArgumentException.class, () -> x.coinsAfter(days));
            Check.dueThrow("trustAfter " + days, IllegalArgumentException.class, () -> x.trustAfter(1, days));
            Check.dueThrow("trustAfter " + days + " of no village", IndexOutOfBoundsException.class, () -> x.trustAfter(2, days));
        }
        Check.dueThrow("pass(0)", IllegalArgumentException.class, () -> x.pass(0));
        for (int village : new int[] {-1, 2, Integer.MIN_VALUE, Integer.MAX_VALUE}) {
            Check.dueThrow("trustAfter of " + village, IndexOutOfBoundsException.class, () -> x.trustAfter(village, 1));
        }
        Check.dueText("state after wrong days", Check.stateOf(x), before);
        Check.dueThrow("undo", IllegalStateException.class, () -> x.undo());
        x.pass(200);
        Check.due("day after pass(200)", x.day(), 203);
    }

    private static void future() {
        String text = "almanac 9 5 4 6;village a 50 50;village b 40 90;fair f a 2 30 3;fair g b 3 20 4;fair h a 3 9 9;"
            + "say a 30 sun;say b 30 rain;say a 12 sun;say b 7 storm;say a 3 rain;say b 25 sun;";
        for (int days : new int[] {0, 1, 2, 3, 7, 11, 12, 13, 24, 29, 30, 31, 200}) {
            AlmanacOffice x = Check.loaded(text);
            String before = Check.stateOf(x);
            int coins = x.coinsAfter(days);
            int trustA = x.trustAfter(0, days);
            int trustB = x.trustAfter(1, days);
            int empty = x.daysUntilEmpty();
            Check.dueText("state after questions", Check.stateOf(x), before);
            Check.due("daysUntilEmpty at first", empty, 30);
            if (days > 0) x.pass(days);
            Check.due("coinsAfter(" + days + ")", coins, x.coins());
            Check.due("trustAfter(0, " + days + ")", trustA, x.trustOf(0));
            Check.due("trustAfter(1, " + days + ")", trustB, x.trustOf(1));
            Check.due("daysUntilEmpty after " + days, x.daysUntilEmpty(), Math.max(0, 30 - days));
            Check.due("forecastCount after " + days, x.forecastCount() == 0, days >= 30);
        }
        AlmanacOffice w = Check.loaded("almanac 0 1 0 0;village a 50 50;say a 2 sun;say a 4 rain;");
        Check.due("trustAfter alone", w.trustAfter(0, 2), 55);
        Check.due("trustAfter later", w.trustAfter(0, 4), 45);
        Check.due("trustAfter earlier again", w.trustAfter(0, 1), 50);
        AlmanacOffice y = Check.loaded("almanac 0 1 0 0;village a 50 50;pass 5;");
        Check.due("daysUntilEmpty of an empty book", y.daysUntilEmpty(), 0);
        y.print(0, 9, 0);
        y.print(0, 7, 0);
        Check.due("daysUntilEmpty of days 9 and 7", y.daysUntilEmpty(), 4);
    }

    private static void shares() {
        AlmanacOffice x = Check.loaded("almanac 0 1 0 0;village a 50 50;village b 5 6;village c 7 8;");
        Check.dueDouble("hitShare of none", x.hitShare(), 0.0);
        Check.dueDouble("averageTrust", x.averageTrust(), 64.0 / 3.0);
        x.print(0, 1, 0);
        x.print(1, 1, 1);
        x.print(2, 1, 2);
        x.pass(1);
        Check.dueDouble("hitShare of one in three", x.hitShare(), 1.0f / 3.0f);
        Check.dueDouble("averageTrust of 55, 0 and 0", x.averageTrust(), 55.0 / 3.0);
        AlmanacOffice y = Check.loaded("almanac 0 1 0 0;");
        Check.dueDouble("averageTrust of none", y.averageTrust(), 0.0);
        AlmanacOffice z = Check.loaded("almanac 0 1 0 0;village a 1 0;say a 1 rain;pass 1;");
        Check.dueDouble("hitShare of regrets alone", z.hitShare(), 0.0);
    }

    private static void counters() {
        String text = "almanac 0 1 0 0;village a 50 50;say a 1 sun;say a 2 rain;say a 3 sun;say a 4 sun;say a 9 sun;pass 3;retract 0;";
        AlmanacOffice x = Check.loaded(text);
        Check.due("hits of the text", x.hits(), 2);
        Check.due("regrets of the text", x.regrets(), 1);
        Check.due("retractions of the text", x.retractions(), 2);
        x.print(0, 4, 0);
        x.pass(1);
        Check.due("hits since the text", x.hits(), 3);
        Check.load(x, text);
        Check.due("hits begin anew", x.hits(), 2);
        Check.due("regrets begin anew", x.regrets(), 1);
        Check.due("retractions begin anew", x.retractions(), 2);
        Check.due("regretCount begins anew", x.regretCount(), 1);
        x.undo();
        Check.due("hits after undo", x.hits(), 3);
    }
}
