import java.util.NoSuchElementException;

/** Section 5 of the terms: each refused call of the face throws what the document names first and changes nothing; a question changes nothing. */
final class RefusedTest {
    private static final Class<IndexOutOfBoundsException> INDEX = IndexOutOfBoundsException.class;
    private static final Class<IllegalArgumentException> ARGUMENT = IllegalArgumentException.class;
    private static final Class<IllegalStateException> STATE = IllegalStateException.class;
    private static final Class<NoSuchElementException> ELEMENT = NoSuchElementException.class;
    private static final int MIN = Integer.MIN_VALUE;
    private static final int MAX = Integer.MAX_VALUE;

    public static void main(String[] args) {
        newOffice();
        usedOffice();
        fullOffice();
        bareOffice();
        poorOffice();
        Check.end();
    }

    /** Some numbers outside 0 up to, but without, an end. */
    private static int[] outside(int end) {
        return new int[] {MIN, -1, end, end + 1, MAX};
    }

    private static void sayRefusals() {
        Check.about("A method that throws an exception changes nothing. If several exceptions apply, the one that is listed first is thrown.");
    }

    private static void sayQuestions() {
        Check.about("Methods that ask a question change nothing.");
    }

    /** As the constructor leaves it: nothing remembered, no slots, no output, no input, no error. */
    private static void newOffice() {
        Untouched u = new Untouched("new", AlmanacOffice::new);
        sayRefusals();
        wrongVillages(u, 2, 5);
        wrongFairs(u, 2);
        wrongWeathers(u, 4);
        wrongDays(u);
        wrongPlaces(u, 1, 3, 0, 0);
        wrongSlots(u);
        for (int length : new int[] {MIN, -1, 1, 20, 600, MAX}) u.refuses("truncateInput(" + length + ")", ARGUMENT, x -> x.truncateInput(length));
        u.refuses("restore(0)", STATE, x -> x.restore(0));
        u.refuses("restore(1)", STATE, x -> x.restore(1));
        u.refuses("undo()", STATE, x -> x.undo());
        wrongPrints(u, 0, 5, new int[] {MIN, -1, 0, 3, 34, MAX});
        sayQuestions();
        questions(u, 2, 2, 3, 1);
        u.answers("daysUntilEmpty", 6, x -> x.daysUntilEmpty());
        u.answers("bestSeller", 50, x -> x.bestSeller());
        u.answers("findName", -1, x -> x.findName());
        u.answers("truncateInput(0)", 0, x -> x.truncateInput(0));
        u.answers("hitShare", 1.0f, x -> x.hitShare());
        u.answers("averageTrust", 70.0, x -> x.averageTrust());
        u.answers("coinsAfter(6)", 326, x -> x.coinsAfter(6));
        u.answers("trustAfter(1, 6)", 75, x -> x.trustAfter(1, 6));
    }

    /** More than eight calls are remembered, slot 0 and the output are full, the latest load had an error, and a text waits. */
    private static AlmanacOffice used() {
        AlmanacOffice x = Check.loaded("almanac 3 4 2 1;village a 40 70;village b 30 50;village c 20 90;fair f a 2 30 3;fair g b 1 9 2;"
            + "say a 9 sun;say b 2 rain;say c 3 storm;say a 12 sun;say b 5 sun;say c 6 rain;pass 2;");
        x.save(0);
        x.pass(1);
        x.print(2, 20, 2);
        x.setTrust(0, 77);
        x.setPeople(1, 33);
        x.setOdds(2, 3);
        x.retract(1);
        x.print(1, 30, 0);
        x.pass(2);
        x.print(0, 11, 0);
        x.print(1, 11, 1);
        x.restore(0);
        x.print(0, 13, 0);
        Check.feed(x, "almanac 1 1 1 1;village q 0 1;");
        Check.dueThrow("load", ARGUMENT, () -> x.load());
        x.writePage(0);
        Check.feed(x, "almanac 9 1 2 3;village q 7 70;say q 4 rain;pass 2;");
        return x;
    }

    private static void usedOffice() {
        Untouched u = new Untouched("used", RefusedTest::used);
        AlmanacOffice x0 = used();
        Check.due("day of the used one", x0.day(), 2);
        Check.due("forecasts of the used one", x0.forecastCount(), 6);
        Check.due("pages of the used one", x0.pageCount(), 2);
        Check.due("error of the used one", x0.errorCode() * 100 + x0.errorPosition(), 226);
        sayRefusals();
        wrongVillages(u, 3, 9);
        wrongFairs(u, 2);
        wrongWeathers(u, 4);
        wrongDays(u);
        int output = used().writePage(0);
        wrongPlaces(u, 2, 6, x0.regretCount(), output);
        wrongSlots(u);
        for (int length : new int[] {MIN, -1, 52, 60, 600, MAX}) u.refuses("truncateInput(" + length + ")", ARGUMENT, x -> x.truncateInput(length));
        u.refuses("restore(1)", STATE, x -> x.restore(1));
        wrongPrints(u, 0, 9, new int[] {MIN, -1, 0, 2, 33, MAX});
        sayQuestions();
        questions(u, 3, 2, 6, 2);
        u.answers("findName", -1, x -> x.findName());
        u.answers("outputByte(0)", (int) 'a', x -> x.outputByte(0));
    }

    /** Six villages and fairs, 30 forecasts, 600 bytes of input, both slots full. */
    private static AlmanacOffice full() {
        StringBuilder text = new StringBuilder("almanac 9 0 20 0;");
        for (char name = 'a'; name <= 'f'; name++) text.append("village ").append(name).append(" 99 100;");
        for (char name = 'a'; name <= 'f'; name++) text.append("fair x").append(name).append(" ").append(name).append(" 12 99 20;");
        AlmanacOffice x = Check.loaded(text.toString());
        x.save(0);
        x.pass(5);
        x.save(1);
        for (int i = 0; i < 30; i++) x.print(i % 6, 6 + i, i % 3);
        x.pass(1);
        x.print(0, 36, 1);
        for (int i = 0; i < 30; i++) x.appendInput(0x61626364, 0x20202020, 0x30303030, 0x3b3b3b3b, i);
        x.writePage(7);
        return x;
    }

    private static void fullOffice() {
        Untouched u = new Untouched("full", RefusedTest::full);
        AlmanacOffice x0 = full();
        Check.due("day of the full one", x0.day(), 6);
        Check.due("forecasts of the full one", x0.forecastCount(), 30);
        sayRefusals();
        wrongVillages(u, 6, 12);
        wrongFairs(u, 6);
        wrongWeathers(u, 12);
        wrongDays(u);
        wrongPlaces(u, 8, 30, x0.regretCount(), full().writePage(7));
        wrongSlots(u);
        u.refuses("appendInput", STATE, x -> x.appendInput(1, 2, 3, 4, 5));
        for (int length : new int[] {MIN, -1, 601, 620, MAX}) u.refuses("truncateInput(" + length + ")", ARGUMENT, x -> x.truncateInput(length));
        u.refuses("setOdds(1, 0)", STATE, x -> x.setOdds(1, 0));
        wrongPrints(u, 0, 36, new int[] {MIN, -1, 0, 6, 7, 10, 35, 37, MAX});
        // For village 0 the days 12, 18, 24, 30 and 36 are taken; for the others, day 36 is not, but the book is full.
        int[] reasons = {2, 3, 3, 3, 3, 3};
        for (int village = 0; village < 6; village++) {
            int v = village;
            u.answers("printRefusal(" + v + ", 36)", reasons[v], x -> x.printRefusal(v, 36));
            u.refuses("print(" + v + ", 36, 0)", STATE, x -> x.print(v, 36, 0));
        }
        sayQuestions();
        questions(u, 6, 6, 30, 8);
        u.answers("findName", -1, x -> x.findName());
        u.answers("truncateInput(600)", 600, x -> x.truncateInput(600));
    }

    /** No villages and no fairs, and one remembered call. */
    private static void bareOffice() {
        Untouched u = new Untouched("bare", () -> Check.loaded("almanac 5 0 0 1;"));
        sayRefusals();
        wrongVillages(u, 0, 1);
        wrongFairs(u, 0);
        wrongWeathers(u, 1);
        wrongDays(u);
        wrongPlaces(u, 0, 0, 0, 0);
        wrongSlots(u);
        u.refuses("setOdds(2, 0)", STATE, x -> x.setOdds(2, 0));
        u.refuses("restore(1)", STATE, x -> x.restore(1));
        sayQuestions();
        questions(u, 0, 0, 0, 0);
        u.answers("bestSeller", -1, x -> x.bestSeller());
        u.answers("daysUntilEmpty", 0, x -> x.daysUntilEmpty());
        u.answers("averageTrust", 0.0, x -> x.averageTrust());
        u.answers("hitShare", 0.0f, x -> x.hitShare());
        u.answers("coinsAfter(200)", 0, x -> x.coinsAfter(200));
        u.answers("likeliestWeather", 2, x -> x.likeliestWeather());
    }

    /** Debts of 10 coins and a page that costs nothing, and one that costs more than there is. */
    private static void poorOffice() {
        Untouched u = new Untouched("poor", () -> Check.loaded("almanac 0 0 0 1;village a 1 1;say a 1 sun;say a 9 sun;pass 1;"));
        sayRefusals();
        u.refuses("retract(0)", STATE, x -> x.retract(0));
        u.refuses("retract(1)", ELEMENT, x -> x.retract(1));
        u.refuses("retract(-1)", ELEMENT, x -> x.retract(-1));
        u.answers("canRetract(0)", false, x -> x.canRetract(0));
        u.answers("refundOf(0)", 0, x -> x.refundOf(0));
        Untouched v = new Untouched("owing", () -> Check.loaded("almanac 0 0 0 1;village a 2 100;village b 1 100;fair f a 1 2 7;fair g b 1 1 3;say a 9 sun;say b 2 sun;pass 2;"));
        v.refuses("retract(0)", STATE, x -> x.retract(0));
        v.refuses("retract(1)", ELEMENT, x -> x.retract(1));
        v.answers("canRetract(0)", false, x -> x.canRetract(0));
        v.answers("refundOf(0)", 14, x -> x.refundOf(0));
        v.answers("coins()", 4, x -> x.coins());
    }

    /** Of calls with a village that does not exist, whatever else is wrong: a day, a weather, a value. */
    private static void wrongVillages(Untouched u, int villages, int day) {
        for (int village : outside(villages)) {
            String v = "(" + village + ")";
            u.refuses("peopleOf" + v, INDEX, x -> x.peopleOf(village));
            u.refuses("trustOf" + v, INDEX, x -> x.trustOf(village));
            u.refuses("forecastsFor" + v, INDEX, x -> x.forecastsFor(village));
            u.refuses("tomorrowIn" + v, INDEX, x -> x.tomorrowIn(village));
            for (int itsDay : new int[] {day, -1, MAX}) {
                u.refuses("hasForecast" + v, INDEX, x -> x.hasForecast(village, itsDay));
                u.refuses("weatherOf" + v, INDEX, x -> x.weatherOf(village, itsDay));
                u.refuses("soldOf" + v, INDEX, x -> x.soldOf(village, itsDay));
                u.refuses("paidOf" + v, INDEX, x -> x.paidOf(village, itsDay));
                u.refuses("pageOf" + v, INDEX, x -> x.pageOf(village, itsDay));
                u.refuses("printRefusal" + v, INDEX, x -> x.printRefusal(village, itsDay));
                u.refuses("print" + v, INDEX, x -> x.print(village, itsDay, 0));
                u.refuses("print" + v + " of no weather", INDEX, x -> x.print(village, itsDay, 3));
            }
            for (int value : new int[] {-1, 0, 50, 100, 101, 201}) {
                u.refuses("trustAfter" + v + " of " + value, INDEX, x -> x.trustAfter(village, value));
                u.refuses("setTrust" + v + " of " + value, INDEX, x -> x.setTrust(village, value));
                u.refuses("setPeople" + v + " of " + value, INDEX, x -> x.setPeople(village, value));
            }
        }
        for (int village = 0; village < villages; village++) {
            int v = village;
            for (int trust : outside(101)) u.refuses("setTrust(" + v + ", " + trust + ")", ARGUMENT, x -> x.setTrust(v, trust));
            for (int people : new int[] {MIN, -1, 0, 100, MAX}) u.refuses("setPeople(" + v + ", " + people + ")", ARGUMENT, x -> x.setPeople(v, people));
            for (int days : outside(201)) u.refuses("trustAfter(" + v + ", " + days + ")", ARGUMENT, x -> x.trustAfter(v, days));
            for (int itsDay : new int[] {MIN, -1, 0, 1000, MAX}) {
                u.refuses("weatherOf(" + v + ", " + itsDay + ")", ELEMENT, x -> x.weatherOf(v, itsDay));
                u.refuses("soldOf(" + v + ", " + itsDay + ")", ELEMENT, x -> x.soldOf(v, itsDay));
                u.refuses("paidOf(" + v + ", " + itsDay + ")", ELEMENT, x -> x.paidOf(v, itsDay));
                u.refuses("pageOf(" + v + ", " + itsDay + ")", ELEMENT, x -> x.pageOf(v, itsDay));
            }
        }
    }

    private static void wrongFairs(Untouched u, int fairs) {
        for (int fair : outside(fairs)) {
            u.refuses("fairVillage(" + fair + ")", INDEX, x -> x.fairVillage(fair));
            u.refuses("periodOf(" + fair + ")", INDEX, x -> x.periodOf(fair));
            u.refuses("stockOf(" + fair + ")", INDEX, x -> x.stockOf(fair));
            u.refuses("priceOf(" + fair + ")", INDEX, x -> x.priceOf(fair));
            u.refuses("daysUntilFair(" + fair + ")", INDEX, x -> x.daysUntilFair(fair));
        }
    }

    private static void wrongWeathers(Untouched u, int day) {
        for (int weather : outside(3)) {
            u.refuses("oddsOf(" + weather + ")", ARGUMENT, x -> x.oddsOf(weather));
            u.refuses("chanceOf(" + weather + ")", ARGUMENT, x -> x.chanceOf(weather));
            u.refuses("drawnThisYear(" + weather + ")", ARGUMENT, x -> x.drawnThisYear(weather));
            for (int odds : new int[] {-1, 0, 1, 21}) u.refuses("setOdds(" + weather + ", " + odds + ")", ARGUMENT, x -> x.setOdds(weather, odds));
        }
        for (int weather = 0; weather <= 2; weather++) {
            int w = weather;
            for (int odds : outside(21)) u.refuses("setOdds(" + w + ", " + odds + ")", ARGUMENT, x -> x.setOdds(w, odds));
        }
    }

    private static void wrongDays(Untouched u) {
        for (int days : outside(201)) {
            u.refuses("coinsAfter(" + days + ")", ARGUMENT, x -> x.coinsAfter(days));
            u.refuses("pass(" + days + ")", ARGUMENT, x -> x.pass(days));
        }
        u.refuses("pass(0)", ARGUMENT, x -> x.pass(0));
    }

    private static void wrongPlaces(Untouched u, int pages, int forecasts, int regrets, int output) {
        for (int page : outside(pages)) {
            u.refuses("refundOf(" + page + ")", ELEMENT, x -> x.refundOf(page));
            u.refuses("canRetract(" + page + ")", ELEMENT, x -> x.canRetract(page));
            u.refuses("retract(" + page + ")", ELEMENT, x -> x.retract(page));
            u.refuses("writePage(" + page + ")", ELEMENT, x -> x.writePage(page));
        }
        for (int place : outside(forecasts)) u.refuses("forecastAt(" + place + ")", ELEMENT, x -> x.forecastAt(place));
        for (int index : outside(regrets)) u.refuses("regretAt(" + index + ")", INDEX, x -> x.regretAt(index));
        for (int position : outside(output)) u.refuses("outputByte(" + position + ")", ELEMENT, x -> x.outputByte(position));
    }

    private static void wrongSlots(Untouched u) {
        for (int slot : outside(2)) {
            u.refuses("save(" + slot + ")", INDEX, x -> x.save(slot));
            u.refuses("restore(" + slot + ")", INDEX, x -> x.restore(slot));
        }
    }

    /** A village that exists; a day with its forecast; days that are not among the next 30. */
    private static void wrongPrints(Untouched u, int village, int taken, int[] days) {
        for (int weather = 0; weather <= 2; weather++) {
            int w = weather;
            u.refuses("print of the same", STATE, x -> x.print(village, taken, w));
            for (int day : days) u.refuses("print of day " + day, STATE, x -> x.print(village, day, w));
        }
        for (int weather : outside(3)) {
            u.refuses("print of no weather", ARGUMENT, x -> x.print(village, 10, weather));
            u.refuses("print of no weather, refused too", ARGUMENT, x -> x.print(village, taken, weather));
            for (int day : days) u.refuses("print of no weather, refused too", ARGUMENT, x -> x.print(village, day, weather));
        }
    }

    /** Each question of the face, with arguments that are right; what is due, another office of the same making answers. */
    private static void questions(Untouched u, int villages, int fairs, int forecasts, int pages) {
        ask(u, "errorCode", x -> x.errorCode());
        ask(u, "errorPosition", x -> x.errorPosition());
        ask(u, "day", x -> x.day());
        ask(u, "seed", x -> x.seed());
        ask(u, "coins", x -> x.coins());
        u.answers("villageCount", villages, x -> x.villageCount());
        u.answers("fairCount", fairs, x -> x.fairCount());
        u.answers("forecastCount", forecasts, x -> x.forecastCount());
        u.answers("pageCount", pages, x -> x.pageCount());
        u.answers("copyDifference", 0, x -> x.copyDifference());
        u.answers("coinDifference", 0, x -> x.coinDifference());
        u.answers("bookErrors", 0, x -> x.bookErrors());
        ask(u, "findName", x -> x.findName());
        ask(u, "likeliestWeather", x -> x.likeliestWeather());
        ask(u, "regretCount", x -> x.regretCount());
        ask(u, "hits", x -> x.hits());
        ask(u, "regrets", x -> x.regrets());
        ask(u, "retractions", x -> x.retractions());
        ask(u, "daysUntilEmpty", x -> x.daysUntilEmpty());
        ask(u, "bestSeller", x -> x.bestSeller());
        ask(u, "hitShare", x -> x.hitShare());
        ask(u, "averageTrust", x -> x.averageTrust());
        for (int days : new int[] {0, 1, 12, 199, 200}) ask(u, "coinsAfter", x -> x.coinsAfter(days));
        for (int weather = 0; weather <= 2; weather++) {
            int w = weather;
            ask(u, "oddsOf", x -> x.oddsOf(w));
            ask(u, "chanceOf", x -> x.chanceOf(w));
            ask(u, "drawnThisYear", x -> x.drawnThisYear(w));
        }
        for (int fair = 0; fair < fairs; fair++) {
            int f = fair;
            ask(u, "fairVillage", x -> x.fairVillage(f));
            ask(u, "periodOf", x -> x.periodOf(f));
            ask(u, "stockOf", x -> x.stockOf(f));
            ask(u, "priceOf", x -> x.priceOf(f));
            ask(u, "daysUntilFair", x -> x.daysUntilFair(f));
        }
        for (int village = 0; village < villages; village++) askOfVillage(u, village);
        for (int place = 0; place < forecasts; place++) {
            int p = place;
            ask(u, "forecastAt", x -> x.forecastAt(p));
            ask(u, "weatherOf", x -> x.weatherOf(x.forecastAt(p) % 10, x.forecastAt(p) / 10));
            ask(u, "soldOf", x -> x.soldOf(x.forecastAt(p) % 10, x.forecastAt(p) / 10));
            ask(u, "paidOf", x -> x.paidOf(x.forecastAt(p) % 10, x.forecastAt(p) / 10));
            ask(u, "pageOf", x -> x.pageOf(x.forecastAt(p) % 10, x.forecastAt(p) / 10));
        }
        for (int page = 0; page < pages; page++) {
            int p = page;
            ask(u, "refundOf", x -> x.refundOf(p));
            ask(u, "canRetract", x -> x.canRetract(p));
        }
    }

    private static void askOfVillage(Untouched u, int village) {
        ask(u, "peopleOf", x -> x.peopleOf(village));
        ask(u, "trustOf", x -> x.trustOf(village));
        ask(u, "forecastsFor", x -> x.forecastsFor(village));
        ask(u, "tomorrowIn", x -> x.tomorrowIn(village));
        for (int day : new int[] {MIN, -1, 0, 5, 9, 30, MAX}) {
            ask(u, "hasForecast", x -> x.hasForecast(village, day));
            ask(u, "printRefusal", x -> x.printRefusal(village, day));
        }
        for (int days : new int[] {0, 1, 12, 200}) ask(u, "trustAfter", x -> x.trustAfter(village, days));
    }

    private static void ask(Untouched u, String call, Untouched.Use use) {
        String due = u.fresh(use);
        if (due.startsWith("throws")) Check.report(call + " " + due);
        u.answers(call, due, use);
    }
}
