/** Promises 7 to 11, 21 to 23, 35, 36, 53 to 55: the day, the weather, the years and what can be set. */
final class SkyTest {
    public static void main(String[] args) {
        drawing();
        wrongWeathers();
        tomorrow();
        years();
        settingOdds();
        settingVillages();
        Check.end();
    }

    private static void counts(AlmanacOffice x, String when, int day, int seed, int coins, int villages, int fairs) {
        Check.due("day " + when, x.day(), day);
        Check.due("seed " + when, x.seed(), seed);
        Check.due("coins " + when, x.coins(), coins);
        Check.due("villageCount " + when, x.villageCount(), villages);
        Check.due("fairCount " + when, x.fairCount(), fairs);
    }

    private static void odds(AlmanacOffice x, String when, int sun, int rain, int storm) {
        Check.due("oddsOf(0) " + when, x.oddsOf(0), sun);
        Check.due("oddsOf(1) " + when, x.oddsOf(1), rain);
        Check.due("oddsOf(2) " + when, x.oddsOf(2), storm);
    }

    private static void drawn(AlmanacOffice x, String when, int sun, int rain, int storm) {
        Check.due("drawnThisYear(0) " + when, x.drawnThisYear(0), sun);
        Check.due("drawnThisYear(1) " + when, x.drawnThisYear(1), rain);
        Check.due("drawnThisYear(2) " + when, x.drawnThisYear(2), storm);
    }

    /** The seeds from 7 on are 214, 73, 80, 283, 26, 765. */
    private static void drawing() {
        AlmanacOffice x = Check.loaded("almanac 7 3 2 4;village a 1 1;village b 1 1;fair f a 2 1 1;");
        counts(x, "at first", 0, 7, 0, 2, 1);
        Check.dueDouble("chanceOf(0)", x.chanceOf(0), 3.0 / 9.0);
        Check.dueDouble("chanceOf(1)", x.chanceOf(1), 2.0 / 9.0);
        Check.dueDouble("chanceOf(2)", x.chanceOf(2), 4.0 / 9.0);
        Check.due("likeliestWeather", x.likeliestWeather(), 2);
        x.pass(1);
        // 214 and 73 modulo 9 are 7 and 1.
        drawn(x, "after 1 day", 1, 0, 1);
        counts(x, "after 1 day", 1, 73, 0, 2, 1);
        x.pass(1);
        // 80 and 283 modulo 9 are 8 and 4.
        drawn(x, "after 2 days", 1, 1, 2);
        counts(x, "after 2 days", 2, 283, 0, 2, 1);
        x.pass(1);
        // 26 and 765 modulo 9 are 8 and 0.
        drawn(x, "after 3 days", 2, 1, 3);
        counts(x, "after 3 days", 3, 765, 0, 2, 1);
        AlmanacOffice y = Check.loaded("almanac 1023 1 0 0;");
        Check.dueDouble("chanceOf with a sum of 1", y.chanceOf(0), 1.0);
        y.pass(200);
        counts(y, "without villages", 200, 1023, 0, 0, 0);
        Check.dueDouble("chanceOf the only weather", y.chanceOf(0), 1.0);
        Check.dueDouble("chanceOf no weather", y.chanceOf(1), 0.0);
    }

    private static void wrongWeathers() {
        AlmanacOffice x = new AlmanacOffice();
        for (int weather : new int[] {-1, 3, Integer.MIN_VALUE, Integer.MAX_VALUE}) {
            Check.dueThrow("oddsOf " + weather, IllegalArgumentException.class, () -> x.oddsOf(weather));
            Check.dueThrow("chanceOf " + weather, IllegalArgumentException.class, () -> x.chanceOf(weather));
            Check.dueThrow("drawnThisYear " + weather, IllegalArgumentException.class, () -> x.drawnThisYear(weather));
        }
    }

    private static void tomorrow() {
        AlmanacOffice x = Check.loaded("almanac 7 3 2 4;village a 1 1;village b 1 1;village c 1 1;village d 1 1;");
        // 214, 73, 80 and 283 modulo 9 are 7, 1, 8 and 4.
        Check.due("tomorrowIn(0)", x.tomorrowIn(0), 2);
        Check.due("tomorrowIn(1)", x.tomorrowIn(1), 0);
        Check.due("tomorrowIn(2)", x.tomorrowIn(2), 2);
        Check.due("tomorrowIn(3)", x.tomorrowIn(3), 1);
        Check.due("tomorrowIn draws nothing", x.seed(), 7);
        Check.dueThrow("tomorrowIn(4)", IndexOutOfBoundsException.class, () -> x.tomorrowIn(4));
        Check.dueThrow("tomorrowIn(-1)", IndexOutOfBoundsException.class, () -> x.tomorrowIn(-1));
        AlmanacOffice y = Check.loaded("almanac 0 1 1 1;village a 1 1;");
        String[] weathers = {"sun", "rain", "storm"};
        for (int day = 1; day <= 40; day++) {
            int coming = y.tomorrowIn(0);
            y.print(0, day, coming);
            Check.due("the coming " + weathers[coming] + " is no regret", y.pass(1), 0);
        }
        Check.due("all of them are hits", y.hits(), 40);
    }

    private static void years() {
        AlmanacOffice x = Check.loaded("almanac 0 1 0 0;village a 1 1;pass 11;");
        drawn(x, "on day 11", 11, 0, 0);
        odds(x, "on day 11", 1, 0, 0);
        x.pass(1);
        drawn(x, "on day 12", 0, 0, 0);
        odds(x, "on day 12", 2, 0, 0);
        x.pass(13);
        drawn(x, "on day 25", 1, 0, 0);
        odds(x, "on day 25", 3, 0, 0);
        x.pass(200);
        x.pass(15);
        odds(x, "after 20 years", 20, 0, 0);

        AlmanacOffice r = Check.loaded("almanac 0 0 0 1;village a 1 1;pass 11;");
        drawn(r, "of storms on day 11", 0, 0, 11);
        r.pass(1);
        drawn(r, "of storms on day 12", 0, 0, 0);
        r.pass(3);
        Check.load(r, "almanac 0 0 0 1;village a 1 1;");
        drawn(r, "of a new state", 0, 0, 0);

        // Without villages all weathers are drawn equally often: the smallest one gains, the greatest one loses.
        odds(Check.loaded("almanac 0 0 0 5;pass 12;"), "of an empty year", 1, 0, 4);
        odds(Check.loaded("almanac 0 20 0 1;pass 12;"), "at the limits", 20, 0, 0);
        odds(Check.loaded("almanac 0 20 0 0;pass 24;"), "beyond the limits", 20, 0, 0);

        AlmanacOffice y = Check.loaded("almanac 0 1 0 0;village a 1 1;pass 6;");
        y.setOdds(1, 5);
        y.setOdds(0, 0);
        y.pass(6);
        odds(y, "of half sun and half rain", 1, 5, 0);
        AlmanacOffice z = Check.loaded("almanac 0 0 0 1;village a 1 1;pass 6;");
        z.setOdds(1, 5);
        z.setOdds(2, 0);
        z.pass(6);
        odds(z, "of half storm and half rain", 0, 6, 0);
        AlmanacOffice s = Check.loaded("almanac 0 1 0 0;village a 1 1;pass 5;");
        s.setOdds(2, 5);
        s.setOdds(0, 0);
        s.pass(6);
        s.setOdds(1, 7);
        s.setOdds(2, 0);
        s.pass(1);
        odds(s, "of 5 sun, 1 rain, 6 storm", 0, 6, 1);
        // The seed after 12 draws from 0 is 1004, which is sun at these odds: rain and storm were drawn never.
        AlmanacOffice t = Check.loaded("almanac 0 20 0 0;village a 1 1;pass 11;");
        t.setOdds(1, 1);
        t.setOdds(2, 1);
        t.pass(1);
        Check.due("seed after 12 draws", t.seed(), 1004);
        odds(t, "of 12 sun", 20, 1, 0);
    }

    private static void settingOdds() {
        AlmanacOffice x = Check.loaded("almanac 0 1 2 3;");
        Check.due("setOdds(0, 20)", x.setOdds(0, 20), 1);
        odds(x, "after setOdds(0, 20)", 20, 2, 3);
        Check.due("likeliestWeather", x.likeliestWeather(), 0);
        Check.due("setOdds(1, 20)", x.setOdds(1, 20), 2);
        Check.due("likeliestWeather of two", x.likeliestWeather(), 0);
        Check.due("setOdds(0, 0)", x.setOdds(0, 0), 20);
        Check.due("setOdds(2, 20)", x.setOdds(2, 20), 3);
        Check.due("likeliestWeather of rain and storm", x.likeliestWeather(), 1);
        Check.due("setOdds(1, 0)", x.setOdds(1, 0), 20);
        Check.dueThrow("setOdds(2, 0)", IllegalStateException.class, () -> x.setOdds(2, 0));
        int[][] wrong = {{-1, 1}, {3, 1}, {0, -1}, {0, 21}, {3, 21}, {2, -1}, {0, Integer.MIN_VALUE}, {Integer.MAX_VALUE, 0}};
        for (int[] pair : wrong) {
            Check.dueThrow("setOdds " + pair[0] + " " + pair[1], IllegalArgumentException.class, () -> x.setOdds(pair[0], pair[1]));
        }
        odds(x, "after wrong calls", 0, 0, 20);
        Check.due("undo after 5 calls", x.undo(), 5);
        Check.due("zero odds may stay zero", x.setOdds(0, 0), 0);
    }

    private static void settingVillages() {
        AlmanacOffice x = Check.loaded("almanac 0 1 0 0;village a 50 50;village b 10 20;");
        Check.due("setTrust(1, 100)", x.setTrust(1, 100), 20);
        Check.due("setTrust(1, 0)", x.setTrust(1, 0), 100);
        Check.due("trustOf(1)", x.trustOf(1), 0);
        Check.due("trustOf(0)", x.trustOf(0), 50);
        Check.due("setPeople(0, 99)", x.setPeople(0, 99), 50);
        Check.due("setPeople(0, 1)", x.setPeople(0, 1), 99);
        Check.due("peopleOf(0)", x.peopleOf(0), 1);
        Check.due("peopleOf(1)", x.peopleOf(1), 10);
        String before = Check.stateOf(x);
        for (int village : new int[] {-1, 2, 6, Integer.MIN_VALUE, Integer.MAX_VALUE}) {
            Check.dueThrow("peopleOf " + village, IndexOutOfBoundsException.class, () -> x.peopleOf(village));
            Check.dueThrow("trustOf " + village, IndexOutOfBoundsException.class, () -> x.trustOf(village));
            Check.dueThrow("setTrust " + village, IndexOutOfBoundsException.class, () -> x.setTrust(village, 101));
            Check.dueThrow("setPeople " + village, IndexOutOfBoundsException.class, () -> x.setPeople(village, 0));
        }
        for (int trust : new int[] {-1, 101, Integer.MIN_VALUE, Integer.MAX_VALUE}) {
            Check.dueThrow("setTrust " + trust, IllegalArgumentException.class, () -> x.setTrust(0, trust));
        }
        for (int people : new int[] {-1, 0, 100, Integer.MIN_VALUE, Integer.MAX_VALUE}) {
            Check.dueThrow("setPeople " + people, IllegalArgumentException.class, () -> x.setPeople(0, people));
        }
        Check.dueText("state after wrong calls", Check.stateOf(x), before);
        Check.due("undo after 5 calls", x.undo(), 4);
    }
}
