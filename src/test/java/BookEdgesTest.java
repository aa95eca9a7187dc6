import java.util.NoSuchElementException;

/** Sections 1 and 2 of the terms, with promises 13 to 20, 24 to 34, 45, 51, 52, 57 and 58: the limits of the book and of the fairs. */
final class BookEdgesTest {
    private static final int MIN = Integer.MIN_VALUE;
    private static final int MAX = Integer.MAX_VALUE;
    private static final String SUNNY = "almanac 0 1 0 0;";

    public static void main(String[] args) {
        villageNumbers();
        fairNumbers();
        weathers();
        newForecasts();
        orderOfTheBook();
        daysOfPrinting();
        oneForAVillageAndADay();
        thirtyForecasts();
        firstReason();
        pages();
        emptyBook();
        retracting();
        trustOfRetracted();
        refusedRetraction();
        daysOfFairs();
        whatIsSold();
        roundedDown();
        stockThatIsLeft();
        prices();
        fewerPeople();
        bestSeller();
        writing();
        outputBytes();
        Check.end();
    }

    private static void wrongVillage(AlmanacOffice x, int village) {
        Check.dueThrow("peopleOf(" + village + ")", IndexOutOfBoundsException.class, () -> x.peopleOf(village));
        Check.dueThrow("trustOf(" + village + ")", IndexOutOfBoundsException.class, () -> x.trustOf(village));
        Check.dueThrow("forecastsFor(" + village + ")", IndexOutOfBoundsException.class, () -> x.forecastsFor(village));
        Check.dueThrow("hasForecast(" + village + ", 1)", IndexOutOfBoundsException.class, () -> x.hasForecast(village, 1));
        Check.dueThrow("printRefusal(" + village + ", 1)", IndexOutOfBoundsException.class, () -> x.printRefusal(village, 1));
        Check.dueThrow("tomorrowIn(" + village + ")", IndexOutOfBoundsException.class, () -> x.tomorrowIn(village));
        Check.dueThrow("trustAfter(" + village + ", 1)", IndexOutOfBoundsException.class, () -> x.trustAfter(village, 1));
    }

    private static void villageNumbers() {
        Check.about("There are at most 6 villages, numbered from 0 in the order of the input text.");
        StringBuilder text = new StringBuilder(SUNNY);
        for (int count = 0; count <= 6; count++) {
            AlmanacOffice x = Check.loaded(text.toString());
            Check.due("villageCount", x.villageCount(), count);
            for (int village = 0; village < count; village++) {
                Check.due("peopleOf(" + village + ")", x.peopleOf(village), 10 + village);
                Check.due("trustOf(" + village + ")", x.trustOf(village), 20 + village);
                Check.due("forecastsFor(" + village + ")", x.forecastsFor(village), 0);
                Check.due("hasForecast(" + village + ", 1)", x.hasForecast(village, 1), false);
                Check.due("printRefusal(" + village + ", 1)", x.printRefusal(village, 1), 0);
                Check.due("tomorrowIn(" + village + ")", x.tomorrowIn(village), 0);
                Check.due("trustAfter(" + village + ", 0)", x.trustAfter(village, 0), 20 + village);
            }
            for (int village : new int[] {MIN, -1, count, 6, 7, MAX}) wrongVillage(x, village);
            text.append("village ").append((char) ('a' + count)).append(' ').append(10 + count).append(' ').append(20 + count).append(';');
        }
        AlmanacOffice y = Check.loaded(text.substring(0, text.lastIndexOf("village")));
        y.print(5, 30, 2);
        Check.due("forecastAt(0) of village 5", y.forecastAt(0), 305);
        Check.due("hasForecast(5, 30)", y.hasForecast(5, 30), true);
    }

    private static void fairNumbers() {
        Check.about("There are at most 6 fairs, numbered from 0.");
        StringBuilder text = new StringBuilder(SUNNY + "village v 1 1;village w 1 1;");
        for (int count = 0; count <= 6; count++) {
            AlmanacOffice x = Check.loaded(text.toString());
            Check.due("fairCount", x.fairCount(), count);
            for (int fair = 0; fair < count; fair++) {
                Check.due("fairVillage(" + fair + ")", x.fairVillage(fair), fair % 2);
                Check.due("periodOf(" + fair + ")", x.periodOf(fair), 1 + fair);
                Check.due("stockOf(" + fair + ")", x.stockOf(fair), 10 + fair);
                Check.due("priceOf(" + fair + ")", x.priceOf(fair), 15 + fair);
            }
            for (int fair : new int[] {MIN, -1, count, 6, 7, 100, MAX}) {
                Check.dueThrow("fairVillage(" + fair + ")", IndexOutOfBoundsException.class, () -> x.fairVillage(fair));
                Check.dueThrow("periodOf(" + fair + ")", IndexOutOfBoundsException.class, () -> x.periodOf(fair));
                Check.dueThrow("stockOf(" + fair + ")", IndexOutOfBoundsException.class, () -> x.stockOf(fair));
                Check.dueThrow("priceOf(" + fair + ")", IndexOutOfBoundsException.class, () -> x.priceOf(fair));
                Check.dueThrow("daysUntilFair(" + fair + ")", IndexOutOfBoundsException.class, () -> x.daysUntilFair(fair));
            }
            text.append("fair ").append((char) ('a' + count)).append(count % 2 == 0 ? " v " : " w ");
            text.append(1 + count).append(' ').append(10 + count).append(' ').append(15 + count).append(';');
        }
    }

    private static void weathers() {
        Check.about("A weather is 0 sun, 1 rain or 2 storm.");
        AlmanacOffice x = Check.loaded("almanac 0 7 8 9;village a 1 1;");
        for (int weather = 0; weather <= 2; weather++) {
            Check.due("oddsOf(" + weather + ")", x.oddsOf(weather), 7 + weather);
            Check.dueDouble("chanceOf(" + weather + ")", x.chanceOf(weather), (7.0 + weather) / 24.0);
            Check.due("drawnThisYear(" + weather + ")", x.drawnThisYear(weather), 0);
            x.print(0, 1 + weather, weather);
            Check.due("weatherOf(0, " + (1 + weather) + ")", x.weatherOf(0, 1 + weather), weather);
        }
        for (int weather : new int[] {MIN, -1, 3, 4, MAX}) {
            Check.dueThrow("oddsOf(" + weather + ")", IllegalArgumentException.class, () -> x.oddsOf(weather));
            Check.dueThrow("chanceOf(" + weather + ")", IllegalArgumentException.class, () -> x.chanceOf(weather));
            Check.dueThrow("drawnThisYear(" + weather + ")", IllegalArgumentException.class, () -> x.drawnThisYear(weather));
            Check.dueThrow("print(0, 9, " + weather + ")", IllegalArgumentException.class, () -> x.print(0, 9, weather));
            Check.dueThrow("setOdds(" + weather + ", 1)", IllegalArgumentException.class, () -> x.setOdds(weather, 1));
        }
        Check.due("forecastCount", x.forecastCount(), 3);
    }

    private static void newForecasts() {
        Check.about("A forecast has a number of copies that were sold, and a number of coins that were paid for them, both 0 at first.");
        AlmanacOffice x = Check.loaded(SUNNY + "village a 50 50;fair f a 1 99 2;say a 9 sun;say a 8 rain;");
        Check.due("soldOf(0, 9)", x.soldOf(0, 9) + x.soldOf(0, 8), 0);
        Check.due("paidOf(0, 9)", x.paidOf(0, 9) + x.paidOf(0, 8), 0);
        x.pass(1);
        Check.due("soldOf(0, 9) on day 1", x.soldOf(0, 9), 25);
        Check.due("paidOf(0, 8) on day 1", x.paidOf(0, 8), 50);
        // The same places of the book are used again.
        x.retract(0);
        x.print(0, 9, 2);
        x.print(0, 8, 0);
        Check.due("copies of new ones", x.soldOf(0, 9) + x.soldOf(0, 8), 0);
        Check.due("coins of new ones", x.paidOf(0, 9) + x.paidOf(0, 8), 0);
        Check.due("weather of a new one", x.weatherOf(0, 9), 2);
        Check.due("weather of the other new one", x.weatherOf(0, 8), 0);
        Check.load(x, SUNNY + "village a 50 50;say a 9 rain;");
        Check.due("copies in a new text", x.soldOf(0, 9) + x.paidOf(0, 9), 0);
    }

    private static void places(AlmanacOffice x, String when, int... labels) {
        Check.due("forecastCount " + when, x.forecastCount(), labels.length);
        for (int place = 0; place < labels.length; place++) {
            Check.due("forecastAt(" + place + ") " + when, x.forecastAt(place), labels[place]);
            Check.due("pageOf of it " + when, x.pageOf(labels[place] % 10, labels[place] / 10), place / 4);
        }
        for (int place : new int[] {MIN, -1, labels.length, 30, MAX}) {
            Check.dueThrow("forecastAt(" + place + ") " + when, NoSuchElementException.class, () -> x.forecastAt(place));
        }
    }

    private static void orderOfTheBook() {
        Check.about("The book contains the forecasts in the order in which they were printed.");
        AlmanacOffice x = Check.loaded(SUNNY + "village a 9 9;village b 9 9;say a 9 sun;say b 1 sun;say a 5 rain;say a 1 storm;say b 30 rain;");
        places(x, "of the text", 90, 11, 50, 10, 301);
        Check.due("print", x.print(1, 3, 0), 1);
        places(x, "after print", 90, 11, 50, 10, 301, 31);
        x.pass(1);
        places(x, "after a day", 90, 50, 301, 31);
        Check.due("print of a last place", x.print(0, 31, 0), 1);
        places(x, "after another print", 90, 50, 301, 31, 310);
        x.pass(4);
        places(x, "without the second and the fourth", 90, 301, 310);
        x.pass(4);
        places(x, "without the first", 301, 310);
        x.undo();
        places(x, "after undo", 90, 301, 310);
    }

    private static void daysOfPrinting() {
        Check.about("To print a forecast is refused if: 1 the day is not one of the next 30 days (the present day is none of them).");
        for (int present : new int[] {0, 1, 29, 30, 200, 9999}) {
            AlmanacOffice x = Check.loaded(SUNNY + "village a 9 9;");
            for (int left = present; left > 0; left -= Math.min(200, left)) x.pass(Math.min(200, left));
            Check.due("day", x.day(), present);
            for (int day : new int[] {MIN, MIN + present, -1, 0, present - 1, present, present + 31, present + 32, 100000, MAX - 30, MAX}) {
                Check.due("printRefusal(0, " + day + ") on day " + present, x.printRefusal(0, day), 1);
                Check.dueThrow("print(0, " + day + ", 0) on day " + present, IllegalStateException.class, () -> x.print(0, day, 0));
                Check.due("hasForecast(0, " + day + ")", x.hasForecast(0, day), false);
            }
            for (int day : new int[] {present + 1, present + 2, present + 29, present + 30}) {
                Check.due("printRefusal(0, " + day + ") on day " + present, x.printRefusal(0, day), 0);
                Check.due("print(0, " + day + ", 0) on day " + present, x.print(0, day, 0), 0);
                Check.due("hasForecast(0, " + day + ")", x.hasForecast(0, day), true);
            }
        }
    }

    private static void oneForAVillageAndADay() {
        Check.about("There is at most one forecast for a village and a day: 2 there is a forecast for the village and the day.");
        AlmanacOffice x = Check.loaded(SUNNY + "village a 9 9;village b 9 9;say a 5 sun;");
        Check.due("printRefusal(0, 5)", x.printRefusal(0, 5), 2);
        for (int weather = 0; weather <= 2; weather++) {
            int again = weather;
            Check.dueThrow("print(0, 5, " + weather + ")", IllegalStateException.class, () -> x.print(0, 5, again));
        }
        Check.due("weatherOf(0, 5)", x.weatherOf(0, 5), 0);
        Check.due("printRefusal(1, 5)", x.printRefusal(1, 5), 0);
        Check.due("printRefusal(0, 4)", x.printRefusal(0, 4), 0);
        Check.due("printRefusal(0, 6)", x.printRefusal(0, 6), 0);
        x.print(1, 5, 1);
        Check.due("weatherOf(1, 5)", x.weatherOf(1, 5), 1);
        Check.due("weatherOf(0, 5) still", x.weatherOf(0, 5), 0);
        Check.due("printRefusal(1, 5) then", x.printRefusal(1, 5), 2);
        Check.due("bookErrors", x.bookErrors(), 0);
        x.retract(0);
        Check.due("printRefusal(0, 5) after retract", x.printRefusal(0, 5), 0);
        Check.due("print(0, 5, 2) after retract", x.print(0, 5, 2), 0);
        Check.due("weatherOf(0, 5) after it", x.weatherOf(0, 5), 2);
    }

    private static void thirtyForecasts() {
        Check.about("There are at most 30 forecasts in the book: 3 there are 30 forecasts.");
        AlmanacOffice x = Check.loaded(SUNNY + "village a 9 9;village b 9 9;");
        for (int i = 0; i < 30; i++) {
            Check.due("printRefusal of forecast " + i, x.printRefusal(i % 2, 1 + i), 0);
            Check.due("print of forecast " + i, x.print(i % 2, 1 + i, i % 3), i / 4);
            Check.due("forecastCount", x.forecastCount(), i + 1);
            Check.due("pageCount", x.pageCount(), i / 4 + 1);
        }
        Check.due("printRefusal of a 31st", x.printRefusal(1, 1), 3);
        Check.dueThrow("print of a 31st", IllegalStateException.class, () -> x.print(1, 1, 0));
        Check.due("forecastCount after it", x.forecastCount(), 30);
        Check.due("forecastsFor(0)", x.forecastsFor(0), 15);
        Check.due("forecastsFor(1)", x.forecastsFor(1), 15);
        for (int i = 0; i < 30; i++) Check.due("forecastAt(" + i + ")", x.forecastAt(i), 10 * (1 + i) + i % 2);
        Check.dueThrow("forecastAt(30)", NoSuchElementException.class, () -> x.forecastAt(30));
        x.pass(1);
        Check.due("printRefusal when one has left", x.printRefusal(0, 31), 0);
        Check.due("print when one has left", x.print(0, 31, 0), 7);
        Check.due("printRefusal of a full book again", x.printRefusal(1, 31), 3);
        Check.due("bookErrors", x.bookErrors(), 0);
    }

    private static void firstReason() {
        Check.about("To print a forecast is refused for the first of these reasons that applies.");
        AlmanacOffice x = Check.loaded(SUNNY + "village a 9 9;village b 9 9;");
        for (int day = 1; day <= 30; day++) x.print(0, day, 0);
        Check.due("1 before 3: the present day", x.printRefusal(0, 0), 1);
        Check.due("1 before 3: day 31", x.printRefusal(1, 31), 1);
        Check.due("2 before 3: day 1", x.printRefusal(0, 1), 2);
        Check.due("2 before 3: day 30", x.printRefusal(0, 30), 2);
        Check.due("3: day 1", x.printRefusal(1, 1), 3);
        Check.due("3: day 30", x.printRefusal(1, 30), 3);
    }

    private static void pages() {
        Check.about("The pages of the book are numbered from 0; each contains the next 4 forecasts of the book, the last one perhaps fewer.");
        for (int count = 0; count <= 30; count++) {
            AlmanacOffice x = Check.loaded(SUNNY + "village a 99 1;");
            for (int day = 1; day <= count; day++) Check.due("print", x.print(0, day, 0), (day - 1) / 4);
            int pages = count == 0 ? 0 : 1 + (count - 1) / 4;
            Check.due("pageCount of " + count, x.pageCount(), pages);
            for (int page : new int[] {MIN, -4, -1, pages, pages + 1, 8, 1 << 28, 1 << 29, 1 << 30, MAX}) noPage(x, page);
            for (int day = 1; day <= count; day++) Check.due("pageOf(0, " + day + ") of " + count, x.pageOf(0, day), (day - 1) / 4);
            for (int page = 0; page < pages; page++) {
                Check.due("refundOf(" + page + ")", x.refundOf(page), 0);
                Check.due("canRetract(" + page + ")", x.canRetract(page), true);
                int words = Check.pageText(x, page).split(" ").length;
                Check.due("words of page " + page + " of " + count, words, Math.min(4, count - 4 * page));
            }
        }
    }

    private static void noPage(AlmanacOffice x, int page) {
        Check.dueThrow("refundOf(" + page + ")", NoSuchElementException.class, () -> x.refundOf(page));
        Check.dueThrow("canRetract(" + page + ")", NoSuchElementException.class, () -> x.canRetract(page));
        Check.dueThrow("retract(" + page + ")", NoSuchElementException.class, () -> x.retract(page));
        Check.dueThrow("writePage(" + page + ")", NoSuchElementException.class, () -> x.writePage(page));
    }

    private static void emptyBook() {
        Check.about("There are no pages without forecasts.");
        AlmanacOffice x = Check.loaded(SUNNY + "village a 99 1;");
        empty(x, "at first");
        x.print(0, 1, 0);
        Check.due("pageCount of one", x.pageCount(), 1);
        x.pass(1);
        empty(x, "after the day of the only forecast");
        x.print(0, 2, 0);
        x.retract(0);
        empty(x, "after retract");
        for (int i = 3; i <= 7; i++) x.print(0, i, 0);
        Check.due("pageCount of five", x.pageCount(), 2);
        x.retract(1);
        Check.due("pageCount of four", x.pageCount(), 1);
        noPage(x, 1);
        x.print(0, 7, 0);
        x.pass(2);
        Check.due("pageCount when a page has become full again", x.pageCount(), 1);
        noPage(x, 1);
        x.pass(5);
        empty(x, "at last");
        empty(Check.loaded(SUNNY), "without villages");
    }

    private static void empty(AlmanacOffice x, String when) {
        Check.due("forecastCount " + when, x.forecastCount(), 0);
        Check.due("pageCount " + when, x.pageCount(), 0);
        Check.due("bestSeller " + when, x.bestSeller(), AlmanacOffice.NONE);
        Check.due("daysUntilEmpty " + when, x.daysUntilEmpty(), 0);
        Check.due("bookErrors " + when, x.bookErrors(), 0);
        Check.dueThrow("forecastAt(0) " + when, NoSuchElementException.class, () -> x.forecastAt(0));
        noPage(x, 0);
        noPage(x, -1);
    }

    private static void retracting() {
        Check.about("To retract a page means: the coins that were paid for its forecasts are paid back, and they leave the book.");
        AlmanacOffice x = Check.loaded(SUNNY + "village a 10 100;fair f a 1 99 1;say a 9 sun;say a 8 sun;say a 7 sun;say a 6 sun;say a 5 sun;pass 1;");
        x.print(0, 4, 0);
        Check.due("coins", x.coins(), 50);
        Check.due("refundOf(0)", x.refundOf(0), 40);
        Check.due("refundOf(1)", x.refundOf(1), 10);
        Check.due("retract(1)", x.retract(1), 10);
        Check.due("coins after it", x.coins(), 40);
        Check.due("retractions after it", x.retractions(), 2);
        places(x, "after it", 90, 80, 70, 60);
        Check.due("hasForecast(0, 5)", x.hasForecast(0, 5), false);
        Check.due("retract(0)", x.retract(0), 40);
        Check.due("coins at last", x.coins(), 0);
        Check.due("retractions at last", x.retractions(), 6);
        Check.due("hits and regrets", x.hits() + x.regrets() + x.regretCount(), 0);
        Check.due("copyDifference", x.copyDifference(), 0);
        Check.due("coinDifference", x.coinDifference(), 0);
        places(x, "at last");
        // The first page of three: the others move up.
        AlmanacOffice y = Check.loaded(SUNNY + "village a 9 99;say a 1 sun;say a 2 sun;say a 3 sun;say a 4 sun;say a 5 rain;say a 6 sun;say a 7 sun;say a 8 sun;say a 9 storm;");
        Check.due("retract(0) of three pages", y.retract(0), 0);
        places(y, "after the first page", 50, 60, 70, 80, 90);
        Check.due("weatherOf(0, 5)", y.weatherOf(0, 5), 1);
        Check.due("weatherOf(0, 9)", y.weatherOf(0, 9), 2);
        Check.due("daysUntilEmpty", y.daysUntilEmpty(), 9);
    }

    private static void trustOfRetracted() {
        Check.about("The trust of the village of each of them decreases by 5, but not below 0.");
        int[][] rows = {{0, 1, 0}, {1, 1, 0}, {4, 1, 0}, {5, 1, 0}, {6, 1, 1}, {9, 2, 0}, {10, 2, 0}, {11, 2, 1}, {19, 4, 0}, {20, 4, 0}, {21, 4, 1}, {100, 4, 80}, {100, 1, 95}};
        for (int[] row : rows) {
            AlmanacOffice x = Check.loaded(SUNNY + "village a 9 50;village b 9 " + row[0] + ";village c 9 50;");
            for (int day = 1; day <= row[1]; day++) x.print(1, day, 0);
            x.retract(0);
            Check.due("trust of " + row[0] + " after " + row[1], x.trustOf(1), row[2]);
            Check.due("trust of the others", x.trustOf(0) + x.trustOf(2), 100);
        }
        AlmanacOffice y = Check.loaded(SUNNY + "village a 9 50;village b 9 3;say a 1 sun;say b 1 sun;say a 2 sun;say a 3 sun;say b 9 sun;");
        y.retract(0);
        Check.due("trust of three", y.trustOf(0), 35);
        Check.due("trust of one", y.trustOf(1), 0);
    }

    private static void refusedRetraction() {
        Check.about("This is refused if the office has fewer coins than are to be paid back.");
        // Villages a, b and c pay 7, 5 and the price; then b's forecast is regretted in a storm for 5 and 10 coins more, and c's is a hit.
        String text = "almanac 0 0 0 1;village a 1 100;village b 1 100;village c 1 100;fair f a 1 1 7;fair g b 1 1 5;fair h c 1 1 %;"
            + "say a 9 sun;say b 2 sun;say c 2 storm;pass 2;";
        for (int price : new int[] {1, 9, 10, 11, 20}) {
            AlmanacOffice x = Check.loaded(text.replace("%", "" + price));
            Check.due("coins at the price " + price, x.coins(), price - 3);
            Check.due("refundOf(0)", x.refundOf(0), 7);
            Check.due("canRetract(0) at the price " + price, x.canRetract(0), price >= 10);
            if (price < 10) {
                refused(x, 0);
                Check.error(6, text.replace("%", "" + price) + "retract ^0;");
            } else {
                Check.due("retract(0) at the price " + price, x.retract(0), 7);
                Check.due("coins after it", x.coins(), price - 10);
                Check.right(text.replace("%", "" + price) + "retract 0;", 3);
            }
        }
        debts();
    }

    private static void debts() {
        // The same without a sale in a: a page that costs nothing, with -9, -1, 0 and 1 coins.
        for (int price : new int[] {1, 9, 10, 11}) {
            AlmanacOffice x = Check.loaded("almanac 0 0 0 1;village a 1 100;village b 1 100;village c 1 100;fair g b 1 1 5;fair h c 1 1 " + price
                + ";say a 9 sun;say b 2 sun;say c 2 storm;pass 2;");
            Check.due("coins", x.coins(), price - 10);
            Check.due("refundOf(0)", x.refundOf(0), 0);
            Check.due("canRetract(0)", x.canRetract(0), price >= 10);
            if (price < 10) refused(x, 0);
            else Check.due("retract(0)", x.retract(0), 0);
        }
    }

    private static void refused(AlmanacOffice x, int page) {
        String before = Check.stateOf(x);
        Check.dueThrow("retract(" + page + ")", IllegalStateException.class, () -> x.retract(page));
        Check.dueText("state after a refused retract", Check.stateOf(x), before);
    }

    /** Each of six villages has a fair of the same period, which sells one copy each time. */
    private static void daysOfFairs() {
        Check.about("It is held on each day for which the day plus the number of the fair is divisible by its period.");
        for (int period = 1; period <= 12; period++) {
            StringBuilder text = new StringBuilder(SUNNY);
            for (char name = 'a'; name <= 'f'; name++) {
                text.append("village ").append(name).append(" 99 100;fair ").append(name).append("x ").append(name).append(' ').append(period);
                text.append(" 1 1;say ").append(name).append(" 30 sun;");
            }
            AlmanacOffice x = Check.loaded(text.toString());
            int[] sold = new int[6];
            for (int day = 0; day <= 25; day++) {
                for (int fair = 0; fair < 6; fair++) {
                    if (day > 0 && (day + fair) % period == 0) sold[fair]++;
                    int until = 1;
                    while ((day + until + fair) % period != 0) until++;
                    String which = "of fair " + fair + " with the period " + period + " on day " + day;
                    Check.due("soldOf(" + fair + ", 30) " + which, x.soldOf(fair, 30), sold[fair]);
                    Check.due("daysUntilFair " + which, x.daysUntilFair(fair), until);
                }
                x.pass(1);
            }
        }
        Check.about("daysUntilFair: the smallest number of days, at least 1, after which it is held.");
        AlmanacOffice y = Check.loaded(SUNNY + "village a 1 1;fair f a 1 1 1;fair g a 12 1 1;");
        Check.due("daysUntilFair of a period of 1", y.daysUntilFair(0), 1);
        Check.due("daysUntilFair of a period of 12", y.daysUntilFair(1), 11);
        y.pass(10);
        Check.due("daysUntilFair on the day before", y.daysUntilFair(1), 1);
        y.pass(1);
        Check.due("daysUntilFair on the day itself", y.daysUntilFair(1), 12);
        Check.due("daysUntilFair of a daily one on its day", y.daysUntilFair(0), 1);
    }

    private static void sale(AlmanacOffice x, String when, int village, int day, int sold, int paid) {
        Check.due("soldOf(" + village + ", " + day + ") " + when, x.soldOf(village, day), sold);
        Check.due("paidOf(" + village + ", " + day + ") " + when, x.paidOf(village, day), paid);
    }

    private static void whatIsSold() {
        Check.about("At a fair, the forecasts for its village whose days are later than the present day are sold.");
        AlmanacOffice x = Check.loaded(SUNNY + "village a 40 50;village b 40 50;fair f b 1 99 1;say a 30 sun;say b 1 sun;say b 2 sun;say b 3 sun;");
        x.pass(1);
        Check.due("coins: nothing for day 1", x.coins(), 40);
        sale(x, "of the other village", 0, 30, 0, 0);
        sale(x, "of tomorrow", 1, 2, 20, 20);
        sale(x, "of the day after", 1, 3, 20, 20);
        Check.due("trust after the fair and the hit", x.trustOf(1), 55);
        x.pass(1);
        // 20 * 55 / 100 more for day 3; nothing for day 2.
        Check.due("coins: nothing for day 2", x.coins(), 51);
        sale(x, "of tomorrow", 1, 3, 31, 31);
        x.pass(1);
        Check.due("coins: nothing for day 3", x.coins(), 51);
        x.print(1, 33, 0);
        x.pass(1);
        sale(x, "of a day far off", 1, 33, 26, 26);

        Check.about("in the order of the book");
        AlmanacOffice y = Check.loaded(SUNNY + "village a 10 100;fair f a 1 12 1;say a 9 sun;say a 2 sun;say a 5 sun;pass 1;");
        sale(y, "first", 0, 9, 10, 10);
        sale(y, "second", 0, 2, 2, 2);
        sale(y, "third", 0, 5, 0, 0);

        Check.about("The fairs of this day are held, by ascending numbers.");
        AlmanacOffice z = Check.loaded(SUNNY + "village a 40 50;fair f a 1 99 1;fair g a 1 99 10;say a 9 sun;pass 1;");
        sale(z, "of 20 copies, then 10", 0, 9, 30, 120);
    }

    private static void roundedDown() {
        Check.about("of each one as many copies as (people - sold copies) * trust / 100, rounded down");
        int[][] rows = {{99, 100, 99, 99}, {99, 99, 98, 98}, {99, 98, 97, 98}, {99, 1, 0, 0}, {1, 99, 0, 0}, {1, 100, 1, 1}, {1, 0, 0, 0}, {99, 0, 0, 0},
            {50, 1, 0, 0}, {50, 2, 1, 1}, {3, 33, 0, 0}, {3, 34, 1, 1}, {10, 95, 9, 9}, {99, 50, 49, 74}, {2, 50, 1, 1}, {40, 55, 22, 31}, {67, 30, 20, 34}};
        for (int[] row : rows) {
            AlmanacOffice x = Check.loaded(SUNNY + "village a " + row[0] + " " + row[1] + ";fair f a 1 99 1;say a 9 sun;");
            x.pass(1);
            sale(x, "of " + row[0] + " people with trust " + row[1], 0, 9, row[2], row[2]);
            x.pass(1);
            sale(x, "on the next day of " + row[0] + " people with trust " + row[1], 0, 9, row[3], row[3]);
        }
    }

    private static void stockThatIsLeft() {
        Check.about("but at most what is left of the stock");
        // 10 people with full trust: of a stock up to 30, three forecasts sell 10 each as long as there is some.
        for (int stock : new int[] {1, 9, 10, 11, 19, 20, 21, 29, 30, 31, 99}) {
            AlmanacOffice x = Check.loaded(SUNNY + "village a 10 100;fair f a 1 " + stock + " 2;say a 9 sun;say a 8 sun;say a 7 sun;pass 1;");
            for (int i = 0; i < 3; i++) {
                int sold = Math.max(0, Math.min(10, stock - 10 * i));
                sale(x, "of a stock of " + stock, 0, 9 - i, sold, 2 * sold);
            }
            Check.due("coins of a stock of " + stock, x.coins(), 2 * Math.min(30, stock));
            Check.due("stockOf(0)", x.stockOf(0), stock);
        }
        AlmanacOffice y = Check.loaded(SUNNY + "village a 50 100;fair f a 1 3 1;fair g a 1 4 10;say a 9 sun;pass 1;");
        sale(y, "at two fairs, each with its own stock", 0, 9, 7, 43);
        y.pass(1);
        sale(y, "on the next day, with the stocks full again", 0, 9, 14, 86);
    }

    private static void prices() {
        Check.about("They are paid with the price.");
        for (int price : new int[] {1, 2, 19, 20}) {
            AlmanacOffice x = Check.loaded(SUNNY + "village a 99 100;fair f a 1 99 " + price + ";say a 9 sun;pass 1;");
            sale(x, "at the price " + price, 0, 9, 99, 99 * price);
            Check.due("coins at the price " + price, x.coins(), 99 * price);
            Check.due("refundOf(0) at the price " + price, x.refundOf(0), 99 * price);
        }
    }

    private static void fewerPeople() {
        Check.about("setPeople: sold copies stay; if more are sold than there are people, no more are sold.");
        int[][] rows = {{1, 0}, {29, 0}, {30, 0}, {31, 1}, {32, 2}, {99, 30}};
        for (int[] row : rows) {
            AlmanacOffice x = Check.loaded(SUNNY + "village a 40 100;fair f a 1 30 1;say a 9 sun;pass 1;");
            sale(x, "at first", 0, 9, 30, 30);
            x.setPeople(0, row[0]);
            sale(x, "after setPeople", 0, 9, 30, 30);
            x.print(0, 8, 0);
            x.pass(1);
            sale(x, "with " + row[0] + " people", 0, 9, 30 + row[1], 30 + row[1]);
            // What is not sold of the first one does not make the stock greater than it is.
            int rest = Math.min(row[0], 30 - row[1]);
            sale(x, "with " + row[0] + " people", 0, 8, rest, rest);
            Check.due("coins with " + row[0] + " people", x.coins(), 30 + row[1] + rest);
            Check.due("copyDifference", x.copyDifference(), 0);
            Check.due("coinDifference", x.coinDifference(), 0);
        }
        AlmanacOffice y = Check.loaded(SUNNY + "village a 99 100;fair f a 1 99 1;say a 9 sun;pass 1;");
        y.setPeople(0, 1);
        y.print(0, 10, 0);
        y.pass(1);
        sale(y, "with 98 people too few", 0, 9, 99, 99);
        sale(y, "of the one that is left", 0, 10, 1, 1);
    }

    private static void bestSeller() {
        Check.about("bestSeller: the forecast in the book with the most sold copies, the first one of several; NONE if there are no forecasts.");
        AlmanacOffice x = Check.loaded(SUNNY + "village a 10 100;village b 11 100;village c 11 100;fair f b 1 11 1;fair g c 1 11 1;fair h a 1 10 1;");
        Check.due("of none", x.bestSeller(), -1);
        x.print(0, 5, 0);
        Check.due("of one without copies", x.bestSeller(), 50);
        x.print(1, 4, 0);
        x.print(2, 3, 0);
        Check.due("of three without copies", x.bestSeller(), 50);
        x.pass(1);
        Check.due("of 10, 11 and 11", x.bestSeller(), 41);
        x.pass(2);
        Check.due("of 10 and 11", x.bestSeller(), 41);
        x.pass(1);
        Check.due("of 10", x.bestSeller(), 50);
        x.pass(1);
        Check.due("of none again", x.bestSeller(), -1);
    }

    private static void writing() {
        Check.about("writePage: for each forecast, separated by spaces, the name of its village, the day in decimal, and s, r or t for sun, rain or storm.");
        AlmanacOffice x = Check.loaded(SUNNY + "village a 1 1;village bc 1 1;village def 1 1;village zzzz 1 1;"
            + "say zzzz 30 storm;say def 1 rain;say bc 10 sun;say a 9 rain;say zzzz 20 sun;");
        Check.dueText("page 0", Check.pageText(x, 0), "zzzz30t def1r bc10s a9r");
        Check.due("length of page 0", x.writePage(0), 23);
        Check.about("writePage: the previous output is discarded.");
        Check.dueText("page 1", Check.pageText(x, 1), "zzzz20s");
        Check.due("length of page 1", x.writePage(1), 7);
        Check.dueThrow("outputByte(7)", NoSuchElementException.class, () -> x.outputByte(7));
        Check.due("length of page 0 again", x.writePage(0), 23);
        Check.about("writePage throws NoSuchElementException if there is no such page");
        noPage(x, 2);
        noPage(x, -1);
        Check.due("a refused writePage keeps the output", x.outputByte(22), 'r');
        Check.about("writePage: the day in decimal");
        for (int day : new int[] {1, 9, 10, 11, 99, 100, 101, 109, 110, 999, 1000, 1001, 9999, 10000, 10001, 99999, 100000}) {
            int inText = Math.min(70, (day - 1) / 200);
            AlmanacOffice y = Check.loaded(SUNNY + "village a 1 1;" + "pass200;".repeat(inText));
            for (int left = day - 1 - 200 * inText; left > 0; left -= 200) y.pass(Math.min(200, left));
            y.print(0, day, 0);
            Check.dueText("page of day " + day, Check.pageText(y, 0), "a" + day + "s");
        }
        AlmanacOffice z = Check.loaded(SUNNY + "village abcd 1 1;" + "pass200;".repeat(70));
        for (int day = 14001; day <= 14004; day++) z.print(0, day, day % 3);
        Check.dueText("a page of long words", Check.pageText(z, 0), "abcd14001s abcd14002r abcd14003t abcd14004s");
    }

    private static void outputBytes() {
        Check.about("outputByte throws NoSuchElementException if the output has no such position");
        AlmanacOffice x = Check.loaded(SUNNY + "village a 1 1;say a 1 sun;");
        for (int position : new int[] {MIN, -1, 0, 1, 599, 600, MAX}) {
            Check.dueThrow("outputByte(" + position + ") of nothing", NoSuchElementException.class, () -> x.outputByte(position));
        }
        Check.due("writePage(0)", x.writePage(0), 3);
        Check.due("outputByte(0)", x.outputByte(0), 'a');
        Check.due("outputByte(1)", x.outputByte(1), '1');
        Check.due("outputByte(2)", x.outputByte(2), 's');
        for (int position : new int[] {MIN, -1, 3, 4, 600, MAX}) {
            Check.dueThrow("outputByte(" + position + ")", NoSuchElementException.class, () -> x.outputByte(position));
        }
    }
}
