/** Section 3 of the terms, with promises 7 to 11, 14, 21 to 23, 35 to 44, 46 to 50 and 53 to 56: the limits of days, draws and years. */
final class DaysEdgesTest {
    private static final int MIN = Integer.MIN_VALUE;
    private static final int MAX = Integer.MAX_VALUE;
    private static final String[] TEXTS = {"almanac 0 1 0 0;", "almanac 0 0 1 0;", "almanac 0 0 0 1;"};
    private static final String[] WORDS = {"sun", "rain", "storm"};

    public static void main(String[] args) {
        atFirst();
        settingOdds();
        settingVillages();
        seeds();
        weatherOfASeed();
        likeliest();
        fairsBeforeWeather();
        villagesAscending();
        hits();
        stormyRegrets();
        otherRegrets();
        yearEnds();
        yearCounts();
        limitsOfOdds();
        yearAfterDraws();
        latestRegrets();
        passing();
        future();
        emptying();
        counters();
        differences();
        shares();
        manyDays();
        Check.end();
    }

    private static void odds(AlmanacOffice x, String when, int sun, int rain, int storm) {
        Check.due("oddsOf(0) " + when, x.oddsOf(0), sun);
        Check.due("oddsOf(1) " + when, x.oddsOf(1), rain);
        Check.due("oddsOf(2) " + when, x.oddsOf(2), storm);
    }

    private static void drawn(AlmanacOffice x, String when, int sun, int rain, int storm) {
        Check.due("drawnThisYear(0) " + when, x.drawnThisYear(0), sun);
        Check.due("drawnThisYear(1) " + when, x.drawnThisYear(1), rain);
        Check.due("drawnThisYear(2) " + when, x.drawnThisYear(2), storm);
    }

    private static void atFirst() {
        Check.about("The office has a number of coins, 0 at first, which may become negative, and a day, 0 at first.");
        AlmanacOffice x = Check.loaded(TEXTS[2] + "village a 1 1;say a 1 sun;say a 2 rain;say a 3 sun;");
        Check.due("coins at first", x.coins(), 0);
        Check.due("day at first", x.day(), 0);
        for (int day = 1; day <= 3; day++) {
            x.pass(1);
            Check.due("coins after " + day, x.coins(), -10 * day);
            Check.due("day after " + day, x.day(), day);
        }
    }

    private static void settingOdds() {
        Check.about("setOdds: odds, 0 to 20; IllegalArgumentException if the weather or the odds are out of range");
        AlmanacOffice x = Check.loaded("almanac 0 1 2 3;");
        for (int weather = 0; weather <= 2; weather++) {
            int w = weather;
            Check.due("setOdds(" + w + ", 20)", x.setOdds(w, 20), 1 + w);
            Check.due("oddsOf after it", x.oddsOf(w), 20);
            Check.due("setOdds(" + w + ", 0)", x.setOdds(w, 0), 20);
            Check.due("oddsOf after it", x.oddsOf(w), 0);
            Check.due("setOdds(" + w + ", 7)", x.setOdds(w, 7), 0);
            for (int odds : new int[] {MIN, -1, 21, 22, MAX}) {
                Check.dueThrow("setOdds(" + w + ", " + odds + ")", IllegalArgumentException.class, () -> x.setOdds(w, odds));
            }
        }
        for (int weather : new int[] {MIN, -1, 3, MAX}) {
            for (int odds : new int[] {0, 1, 20, 21, -1}) {
                Check.dueThrow("setOdds(" + weather + ", " + odds + ")", IllegalArgumentException.class, () -> x.setOdds(weather, odds));
            }
        }
        odds(x, "after wrong calls", 7, 7, 7);

        Check.about("setOdds throws IllegalStateException if all odds would be 0 (their sum is at least 1)");
        for (int only = 0; only <= 2; only++) {
            int w = only;
            AlmanacOffice y = Check.loaded(TEXTS[w]);
            Check.dueThrow("setOdds(" + w + ", 0) of the only one", IllegalStateException.class, () -> y.setOdds(w, 0));
            Check.due("odds of the only one", y.oddsOf(w), 1);
            for (int odds : new int[] {-1, 21}) {
                Check.dueThrow("the range is asked first", IllegalArgumentException.class, () -> y.setOdds(w, odds));
            }
            Check.dueThrow("the weather is asked first", IllegalArgumentException.class, () -> y.setOdds(3, 0));
            Check.due("another zero stays", y.setOdds((w + 1) % 3, 0), 0);
            Check.due("the only one changes", y.setOdds(w, 20), 1);
            Check.dueThrow("setOdds(" + w + ", 0) of 20", IllegalStateException.class, () -> y.setOdds(w, 0));
            Check.due("another one becomes 1", y.setOdds((w + 2) % 3, 1), 0);
            Check.due("then the first one may be 0", y.setOdds(w, 0), 20);
            Check.dueDouble("chanceOf of the one left", y.chanceOf((w + 2) % 3), 1.0);
        }
    }

    private static void settingVillages() {
        AlmanacOffice x = Check.loaded(TEXTS[0] + "village a 50 50;village b 60 70;");
        Check.about("setTrust: a trust, 0 to 100; the former trust is returned");
        Check.due("setTrust(1, 0)", x.setTrust(1, 0), 70);
        Check.due("setTrust(1, 100)", x.setTrust(1, 100), 0);
        Check.due("setTrust(1, 1)", x.setTrust(1, 1), 100);
        for (int trust : new int[] {MIN, -1, 101, MAX}) {
            Check.dueThrow("setTrust(1, " + trust + ")", IllegalArgumentException.class, () -> x.setTrust(1, trust));
        }
        Check.due("trustOf(1)", x.trustOf(1), 1);
        Check.due("trustOf(0)", x.trustOf(0), 50);
        Check.about("setPeople: a number of people, 1 to 99; the former number is returned");
        Check.due("setPeople(0, 1)", x.setPeople(0, 1), 50);
        Check.due("setPeople(0, 99)", x.setPeople(0, 99), 1);
        Check.due("setPeople(0, 2)", x.setPeople(0, 2), 99);
        for (int people : new int[] {MIN, -1, 0, 100, MAX}) {
            Check.dueThrow("setPeople(0, " + people + ")", IllegalArgumentException.class, () -> x.setPeople(0, people));
        }
        Check.due("peopleOf(0)", x.peopleOf(0), 2);
        Check.due("peopleOf(1)", x.peopleOf(1), 60);
        Check.about("The exception that is listed first is thrown: of a village that does not exist.");
        for (int village : new int[] {MIN, -1, 2, 6, MAX}) {
            for (int value : new int[] {-1, 50, 101}) {
                Check.dueThrow("setTrust(" + village + ", " + value + ")", IndexOutOfBoundsException.class, () -> x.setTrust(village, value));
                Check.dueThrow("setPeople(" + village + ", " + value + ")", IndexOutOfBoundsException.class, () -> x.setPeople(village, value));
            }
        }
    }

    private static void seeds() {
        Check.about("To draw a weather means: the seed becomes (29 * seed + 11) modulo 1024.");
        int[][] rows = {{0, 11}, {1, 40}, {34, 997}, {35, 2}, {36, 31}, {388, 1023}, {494, 1}, {847, 1022}, {953, 0}, {1022, 977}, {1023, 1006}};
        for (int[] row : rows) {
            AlmanacOffice x = Check.loaded("almanac " + row[0] + " 1 2 3;village a 1 1;");
            Check.due("seed at first", x.seed(), row[0]);
            x.pass(1);
            Check.due("seed after " + row[0], x.seed(), row[1]);
        }
        AlmanacOffice y = Check.loaded(TEXTS[0] + "village a 1 1;pass 200;pass 200;pass 200;pass 200;pass 200;");
        y.pass(23);
        Check.due("seed after 1023 draws", y.seed(), 953);
        y.pass(1);
        Check.due("seed after 1024 draws", y.seed(), 0);

        Check.about("For each village a weather is drawn.");
        int[] row = {0, 11, 330, 365, 356, 95, 718};
        StringBuilder text = new StringBuilder(TEXTS[0]);
        for (int count = 0; count <= 6; count++) {
            AlmanacOffice x = Check.loaded(text.toString());
            x.pass(1);
            Check.due("seed after the draws for " + count + " villages", x.seed(), row[count]);
            drawn(x, "of " + count + " villages", count, 0, 0);
            text.append("village ").append((char) ('a' + count)).append(" 1 1;");
        }
    }

    private static void weatherOfASeed() {
        Check.about("v is the new seed modulo the sum of the odds; sun if v < odds of sun, otherwise rain if v < those of sun and rain together, otherwise storm.");
        // The seed after 1 to 6 draws from 0 is 11, 330, 365, 356, 95 and 718.
        int[][] rows = {{12, 0, 0, 0}, {11, 1, 0, 1}, {11, 0, 1, 2}, {0, 11, 1, 2}, {0, 12, 1, 1}, {10, 1, 1, 2}, {10, 2, 0, 1}, {5, 5, 1, 0}, {0, 0, 5, 2}, {3, 3, 3, 0},
            {2, 1, 6, 1}, {2, 0, 7, 2}, {1, 1, 7, 2}, {0, 3, 6, 1}};
        for (int[] row : rows) {
            AlmanacOffice x = Check.loaded("almanac 0 " + row[0] + " " + row[1] + " " + row[2] + ";village a 1 1;");
            Check.due("tomorrowIn(0) of " + row[0] + ", " + row[1] + ", " + row[2], x.tomorrowIn(0), row[3]);
            x.pass(1);
            Check.due("drawnThisYear of it", x.drawnThisYear(row[3]), 1);
        }
        int[][] all = {{9, 6, 5}, {1, 0, 0}, {0, 1, 0}, {0, 0, 1}, {1, 1, 1}, {20, 20, 20}, {0, 5, 3}, {4, 0, 3}, {3, 4, 0}, {20, 1, 20}};
        for (int[] odds : all) {
            for (int seed = 0; seed < 1024; seed++) {
                AlmanacOffice x = Check.loaded("almanac " + seed + " " + odds[0] + " " + odds[1] + " " + odds[2] + ";village a 1 1;village b 1 1;");
                int first = weather((29 * seed + 11) % 1024, odds);
                int second = weather((29 * ((29 * seed + 11) % 1024) + 11) % 1024, odds);
                Check.due("tomorrowIn(0) with the seed " + seed, x.tomorrowIn(0), first);
                Check.due("tomorrowIn(1) with the seed " + seed, x.tomorrowIn(1), second);
                x.pass(1);
                Check.due("drawnThisYear of the first", x.drawnThisYear(first), first == second ? 2 : 1);
                Check.due("drawnThisYear of the second", x.drawnThisYear(second), first == second ? 2 : 1);
            }
        }
        Check.about("tomorrowIn: the weather that will be drawn for the village when the next day passes");
        AlmanacOffice y = Check.loaded("almanac 5 3 4 5;village a 1 1;village b 1 1;village c 1 1;village d 1 1;village e 1 1;village f 1 1;");
        for (int day = 1; day <= 14; day++) {
            int[] weathers = new int[6];
            for (int village = 0; village < 6; village++) {
                weathers[village] = y.tomorrowIn(village);
                y.print(village, day, weathers[village]);
            }
            Check.due("regrets of what was told for day " + day, y.pass(1), 0);
        }
        Check.due("hits of what was told", y.hits(), 84);
    }

    private static int weather(int seed, int[] odds) {
        int v = seed % (odds[0] + odds[1] + odds[2]);
        return v < odds[0] ? 0 : v < odds[0] + odds[1] ? 1 : 2;
    }

    private static void likeliest() {
        Check.about("likeliestWeather: the weather with the greatest odds; the smallest number if several have them");
        int[][] rows = {{1, 0, 0, 0}, {0, 1, 0, 1}, {0, 0, 1, 2}, {1, 1, 0, 0}, {1, 0, 1, 0}, {0, 1, 1, 1}, {1, 1, 1, 0}, {20, 20, 20, 0}, {19, 20, 20, 1}, {19, 19, 20, 2},
            {19, 20, 19, 1}, {20, 19, 20, 0}, {5, 6, 7, 2}, {7, 6, 5, 0}, {5, 7, 6, 1}};
        for (int[] row : rows) {
            AlmanacOffice x = Check.loaded("almanac 0 " + row[0] + " " + row[1] + " " + row[2] + ";");
            Check.due("likeliestWeather of " + row[0] + ", " + row[1] + ", " + row[2], x.likeliestWeather(), row[3]);
            double sum = row[0] + row[1] + row[2];
            for (int weather = 0; weather <= 2; weather++) Check.dueDouble("chanceOf(" + weather + ")", x.chanceOf(weather), row[weather] / sum);
        }
    }

    private static void fairsBeforeWeather() {
        Check.about("Then the following happens in this order: (a) the fairs of this day are held; (b) for each village a weather is drawn.");
        // The copies of the day are sold with the trust before the hit or the regret of the day.
        int[] trusts = {55, 40};
        for (int i = 0; i < 2; i++) {
            AlmanacOffice x = Check.loaded(TEXTS[0] + "village a 40 50;fair f a 1 99 1;say a 1 " + WORDS[i] + ";say a 9 sun;pass 1;");
            Check.due("soldOf(0, 9)", x.soldOf(0, 9), 20);
            Check.due("trustOf(0)", x.trustOf(0), trusts[i]);
            Check.due("coins", x.coins(), 20);
            x.pass(1);
            Check.due("soldOf(0, 9) on the next day", x.soldOf(0, 9), 20 + 20 * trusts[i] / 100);
        }
        // What was sold on the day before is paid back on the day.
        AlmanacOffice y = Check.loaded(TEXTS[2] + "village a 40 50;fair f a 1 99 1;say a 2 sun;pass 1;");
        Check.due("coins on the day before", y.coins(), 20);
        y.pass(1);
        Check.due("coins on the day", y.coins(), -10);
    }

    private static void villagesAscending() {
        Check.about("(b) For each village, by ascending numbers, a weather is drawn.");
        // 11, 330 and 365 modulo 4 are 3, 2 and 1: storm, rain and sun at these odds.
        String text = "almanac 0 2 1 1;village a 9 50;village b 9 50;village c 9 50;";
        AlmanacOffice x = Check.loaded(text + "say c 1 sun;say b 1 rain;say a 1 storm;pass 1;");
        Check.due("hits", x.hits(), 3);
        AlmanacOffice y = Check.loaded(text + "say c 1 rain;say b 1 sun;say a 1 sun;pass 1;");
        Check.due("regrets", y.regrets(), 3);
        for (int i = 0; i < 3; i++) Check.due("regretAt(" + i + "), by villages", y.regretAt(i), 10 + i);
        Check.due("coins of one storm", y.coins(), -10);
        Check.due("trust in the storm", y.trustOf(0), 30);
        Check.due("trust in the rain", y.trustOf(1), 40);
        Check.due("trust in the sun", y.trustOf(2), 40);
        AlmanacOffice z = Check.loaded(text + "say c 1 sun;pass 1;");
        Check.due("a weather is drawn for a village without a forecast", z.hits(), 1);
        drawn(z, "for all villages", 1, 1, 1);
    }

    private static void hits() {
        Check.about("If its weather is the one that was drawn, it is a hit, and the trust increases by 5, but to at most 100.");
        int[][] rows = {{0, 5}, {1, 6}, {50, 55}, {94, 99}, {95, 100}, {96, 100}, {99, 100}, {100, 100}};
        for (int weather = 0; weather <= 2; weather++) {
            for (int[] row : rows) {
                AlmanacOffice x = Check.loaded(TEXTS[weather] + "village a 9 " + row[0] + ";village b 9 50;say a 1 " + WORDS[weather] + ";");
                Check.due("pass", x.pass(1), 0);
                Check.due("trust of " + row[0] + " after a hit", x.trustOf(0), row[1]);
                Check.due("trust of the other village", x.trustOf(1), 50);
                Check.due("hits", x.hits() * 10 + x.regrets(), 10);
                Check.due("coins", x.coins(), 0);
                Check.due("forecastCount", x.forecastCount(), 0);
                Check.due("regretCount", x.regretCount(), 0);
            }
        }
        AlmanacOffice y = Check.loaded(TEXTS[2] + "village a 9 100;fair f a 1 99 7;say a 2 storm;pass 2;");
        Check.due("coins of a hit are kept", y.coins(), 63);
    }

    private static void stormyRegrets() {
        Check.about("If a storm was drawn, the office pays back what was paid for it and 10 coins more; the trust decreases by 20, but not below 0.");
        int[][] rows = {{0, 0}, {1, 0}, {19, 0}, {20, 0}, {21, 1}, {99, 79}, {100, 80}};
        for (int weather = 0; weather <= 1; weather++) {
            for (int[] row : rows) {
                AlmanacOffice x = Check.loaded(TEXTS[2] + "village a 9 " + row[0] + ";village b 9 50;say a 1 " + WORDS[weather] + ";");
                Check.due("pass", x.pass(1), 1);
                Check.due("trust of " + row[0] + " after a storm", x.trustOf(0), row[1]);
                Check.due("trust of the other village", x.trustOf(1), 50);
                Check.due("hits", x.hits() * 10 + x.regrets(), 1);
                Check.due("coins", x.coins(), -10);
                Check.due("forecastCount", x.forecastCount(), 0);
                Check.due("regretAt(0)", x.regretAt(0), 10);
            }
        }
        for (int paid = 1; paid <= 20; paid++) {
            AlmanacOffice y = Check.loaded(TEXTS[2] + "village a 1 100;village b 1 100;fair f a 1 1 " + paid + ";fair g b 1 1 20;say a 2 sun;say b 9 sun;pass 1;");
            Check.due("coins before", y.coins(), 20 + paid);
            y.pass(1);
            Check.due("coins after " + paid + " were paid back", y.coins(), 10);
        }
    }

    private static void otherRegrets() {
        Check.about("Otherwise half of what was paid, rounded down; the trust decreases by 10, but not below 0.");
        int[][] rows = {{0, 0}, {1, 0}, {9, 0}, {10, 0}, {11, 1}, {99, 89}, {100, 90}};
        for (int drawn = 0; drawn <= 1; drawn++) {
            for (int weather = 0; weather <= 2; weather++) {
                if (weather == drawn) continue;
                for (int[] row : rows) {
                    AlmanacOffice x = Check.loaded(TEXTS[drawn] + "village a 9 " + row[0] + ";village b 9 50;say a 1 " + WORDS[weather] + ";");
                    Check.due("pass", x.pass(1), 1);
                    Check.due("trust of " + row[0] + " after a regret", x.trustOf(0), row[1]);
                    Check.due("trust of the other village", x.trustOf(1), 50);
                    Check.due("coins", x.coins(), 0);
                    Check.due("regretAt(0)", x.regretAt(0), 10);
                }
            }
        }
        for (int paid = 1; paid <= 20; paid++) {
            AlmanacOffice y = Check.loaded(TEXTS[1] + "village a 1 100;fair f a 1 1 " + paid + ";say a 2 storm;pass 1;");
            Check.due("coins before", y.coins(), paid);
            y.pass(1);
            Check.due("coins after half of " + paid, y.coins(), (paid + 1) / 2);
        }
    }

    private static void yearEnds() {
        Check.about("(c) If the day is divisible by 12, a year is over.");
        AlmanacOffice x = Check.loaded("almanac 0 5 5 5;");
        for (int day = 0; day < 40; day++) {
            int years = day / 12;
            odds(x, "on day " + day, 5 + years, 5, 5 - years);
            x.pass(1);
        }
        for (int days : new int[] {11, 12, 13, 23, 24, 25, 36, 200}) {
            AlmanacOffice y = Check.loaded("almanac 0 5 5 5;");
            y.pass(days);
            odds(y, "after " + days + " days at once", Math.min(20, 5 + days / 12), 5, Math.max(0, 5 - days / 12));
            AlmanacOffice z = Check.loaded("almanac 0 5 5 5;pass " + days + ";");
            odds(z, "after " + days + " days of a text", Math.min(20, 5 + days / 12), 5, Math.max(0, 5 - days / 12));
        }
        Check.about("drawnThisYear: how often it was drawn since the beginning of the year");
        AlmanacOffice w = Check.loaded(TEXTS[1] + "village a 1 1;village b 1 1;");
        for (int day = 0; day < 27; day++) {
            drawn(w, "on day " + day, 0, 2 * (day % 12), 0);
            w.pass(1);
        }
    }

    /** One weather a day: the odds of all others are 0. On the last day of the year they are 18 for the weather of the day and 1 for the others. */
    private static AlmanacOffice year(int[] counts, int last, int great, int small) {
        AlmanacOffice x = Check.loaded("almanac 0 1 1 1;village a 1 1;");
        int[] left = counts.clone();
        left[last]--;
        for (int weather = 0; weather <= 2; weather++) {
            x.setOdds(weather, 1);
            for (int other = 0; other <= 2; other++) if (other != weather) x.setOdds(other, 0);
            if (left[weather] > 0) x.pass(left[weather]);
            Check.due("drawnThisYear(" + weather + ")", x.drawnThisYear(weather), left[weather]);
        }
        x.setOdds(last, great);
        for (int other = 0; other <= 2; other++) if (other != last) x.setOdds(other, small);
        Check.due("day", x.day(), 11);
        Check.due("tomorrowIn(0)", x.tomorrowIn(0), last);
        x.pass(1);
        return x;
    }

    private static void yearCounts() {
        Check.about("Of the weathers, the one that was drawn most often in this year (the smallest number of several) gets odds that are greater by 1; "
            + "then the one that was drawn least often (the greatest number of several) gets odds that are less by 1.");
        for (int sun = 0; sun <= 12; sun++) {
            for (int rain = 0; sun + rain <= 12; rain++) {
                int storm = 12 - sun - rain;
                int[] counts = {sun, rain, storm};
                int most = sun >= rain && sun >= storm ? 0 : rain >= storm ? 1 : 2;
                int least = storm <= rain && storm <= sun ? 2 : rain <= sun ? 1 : 0;
                for (int last = 0; last <= 2; last++) {
                    if (counts[last] == 0) continue;
                    // The seed after 12 draws is 1004, which is the weather with odds of 18 in 20.
                    AlmanacOffice x = year(counts, last, 18, 1);
                    int[] want = {1, 1, 1};
                    want[last] = 18;
                    want[most]++;
                    want[least]--;
                    odds(x, "after " + sun + " sun, " + rain + " rain, " + storm + " storm", want[0], want[1], want[2]);
                    drawn(x, "in the next year", 0, 0, 0);
                }
            }
        }
    }

    private static void limitsOfOdds() {
        Check.about("odds that are greater by 1, but at most 20; odds that are less by 1, but at least 0");
        odds(year(new int[] {12, 0, 0}, 0, 20, 1), "of 20 and 1, all sun", 20, 1, 0);
        odds(year(new int[] {12, 0, 0}, 0, 20, 0), "of 20 and 0, all sun", 20, 0, 0);
        odds(year(new int[] {12, 0, 0}, 0, 19, 0), "of 19 and 0, all sun", 20, 0, 0);
        odds(year(new int[] {0, 12, 0}, 1, 20, 0), "of 20 and 0, all rain", 0, 20, 0);
        odds(year(new int[] {0, 12, 0}, 1, 19, 0), "of 19 and 0, all rain", 0, 20, 0);
        odds(year(new int[] {0, 0, 12}, 2, 20, 0), "of 20 and 0, all storm", 0, 0, 20);
        odds(year(new int[] {0, 0, 12}, 2, 19, 0), "of 19 and 0, all storm", 0, 0, 20);
        odds(year(new int[] {2, 5, 5}, 1, 20, 0), "of 20 and 0, rain before storm, no sun to lose", 0, 20, 0);
        // A year that is even: sun gains, storm loses.
        odds(Check.loaded("almanac 0 20 7 0;pass 12;"), "at both limits", 20, 7, 0);
        odds(Check.loaded("almanac 0 19 7 1;pass 12;"), "up to both limits", 20, 7, 0);
        odds(Check.loaded("almanac 0 20 7 1;pass 12;"), "at the upper limit", 20, 7, 0);
        odds(Check.loaded("almanac 0 0 0 1;pass 12;"), "of storm alone", 1, 0, 0);
        odds(Check.loaded("almanac 0 0 1 0;pass 12;"), "of rain alone", 1, 1, 0);
        odds(Check.loaded("almanac 0 0 0 20;pass 200;pass 80;"), "after 23 years", 20, 0, 0);
    }

    private static void yearAfterDraws() {
        Check.about("(c) comes after (b): the draws of the last day are those of the year that is over, with its odds.");
        // 11 sun are drawn with odds of 1 for sun alone; after the year sun has 2 and, for rain and storm, nothing is left.
        AlmanacOffice x = Check.loaded("almanac 0 1 0 0;village a 1 50;pass 11;say a 12 sun;say a 13 sun;");
        Check.due("regrets of day 12", x.pass(1), 0);
        drawn(x, "on day 12", 0, 0, 0);
        odds(x, "on day 12", 2, 0, 0);
        x.pass(1);
        drawn(x, "on day 13", 1, 0, 0);
        // The 12th draw decides: 5 sun and 6 rain, then sun, so that sun and rain are equal and sun gains.
        odds(year(new int[] {6, 6, 0}, 0, 18, 1), "when the last day makes them equal", 19, 1, 0);
        odds(year(new int[] {5, 7, 0}, 1, 18, 1), "when the last day makes it more", 1, 19, 0);
        // Storm has odds of 1 on day 12 and of 0 from then on.
        AlmanacOffice y = Check.loaded("almanac 0 0 0 1;village a 1 50;");
        y.pass(6);
        y.setOdds(0, 1);
        y.setOdds(2, 0);
        y.pass(5);
        y.setOdds(2, 1);
        y.setOdds(0, 0);
        int told = y.tomorrowIn(0);
        y.print(0, 12, 2);
        Check.due("tomorrowIn(0) on day 11", told, 2);
        Check.due("regrets of day 12 with the odds before", y.pass(1), 0);
    }

    private static void latestRegrets() {
        Check.about("The office remembers the villages and days of the latest 10 regrets, in their order.");
        for (int count : new int[] {0, 1, 2, 9, 10, 11, 12, 20, 30}) {
            AlmanacOffice x = Check.loaded(TEXTS[0] + "village a 1 1;village b 1 1;village c 1 1;");
            for (int i = 0; i < count; i++) x.print(2 - i % 3, 1 + i / 3, 1);
            x.pass(12);
            Check.due("regrets", x.regrets(), count);
            int kept = Math.min(10, count);
            Check.due("regretCount of " + count, x.regretCount(), kept);
            // Of each day the villages come by ascending numbers; a last day that is not full has but the greater ones.
            int[] labels = new int[count];
            int used = 0;
            for (int day = 1; used < count; day++) {
                int ofDay = Math.min(3, count - used);
                for (int village = 3 - ofDay; village < 3; village++) labels[used++] = 10 * day + village;
            }
            for (int i = 0; i < kept; i++) Check.due("regretAt(" + i + ") of " + count, x.regretAt(i), labels[count - kept + i]);
            for (int index : new int[] {MIN, -1, kept, kept + 1, 10, 11, MAX}) {
                Check.dueThrow("regretAt(" + index + ") of " + count, IndexOutOfBoundsException.class, () -> x.regretAt(index));
            }
        }
        AlmanacOffice y = Check.loaded(TEXTS[0] + "village a 1 1;say a 1 sun;say a 2 rain;say a 3 sun;pass 3;");
        Check.due("regretCount does not count hits", y.regretCount(), 1);
        Check.due("regretAt(0)", y.regretAt(0), 20);
    }

    private static void passing() {
        Check.about("pass: a number of days, 1 to 200; IllegalArgumentException if it is out of range");
        AlmanacOffice x = Check.loaded(TEXTS[0] + "village a 1 1;");
        Check.due("pass(1)", x.pass(1), 0);
        Check.due("day", x.day(), 1);
        Check.due("pass(200)", x.pass(200), 0);
        Check.due("day", x.day(), 201);
        for (int days : new int[] {MIN, -200, -1, 0, 201, 202, MAX}) {
            Check.dueThrow("pass(" + days + ")", IllegalArgumentException.class, () -> x.pass(days));
        }
        Check.due("day after wrong calls", x.day(), 201);
        Check.due("seed after wrong calls", x.drawnThisYear(0), 9);

        Check.about("pass returns the number of regrets in these days");
        AlmanacOffice y = Check.loaded(TEXTS[0] + "village a 1 1;village b 1 1;say a 1 rain;say b 1 storm;say a 2 sun;say b 2 rain;say a 4 rain;say b 5 sun;");
        Check.due("pass over two", y.pass(1), 2);
        Check.due("pass over a hit and a regret", y.pass(1), 1);
        Check.due("pass over none", y.pass(1), 0);
        Check.due("pass over a regret and a hit", y.pass(10), 1);
        Check.due("regrets", y.regrets(), 4);
        AlmanacOffice z = Check.loaded(TEXTS[0] + "village a 1 1;");
        for (int day = 1; day <= 30; day++) z.print(0, day, 2);
        Check.due("pass over 30 regrets", z.pass(200), 30);
        Check.due("pass over none", z.pass(200), 0);
    }

    private static void future() {
        Check.about("coinsAfter and trustAfter: a number of days, 0 to 200; a question about the future assumes that only days pass.");
        String text = "almanac 77 4 3 5;village a 50 50;village b 40 90;fair f a 2 30 3;fair g b 3 20 4;fair h a 3 9 9;"
            + "say a 30 sun;say b 30 rain;say a 12 sun;say b 12 storm;say a 1 rain;say b 25 sun;say a 13 rain;say a 14 storm;";
        for (int days : new int[] {0, 1, 2, 11, 12, 13, 14, 24, 25, 29, 30, 31, 199, 200}) {
            AlmanacOffice x = Check.loaded(text);
            int coins = x.coinsAfter(days);
            int trust0 = x.trustAfter(0, days);
            int trust1 = x.trustAfter(1, days);
            Check.due("day after the questions", x.day(), 0);
            for (int i = 0; i < days; i++) x.pass(1);
            Check.due("coinsAfter(" + days + ")", coins, x.coins());
            Check.due("trustAfter(0, " + days + ")", trust0, x.trustOf(0));
            Check.due("trustAfter(1, " + days + ")", trust1, x.trustOf(1));
        }
        AlmanacOffice y = Check.loaded(text);
        for (int days : new int[] {MIN, -1, 201, MAX}) {
            Check.dueThrow("coinsAfter(" + days + ")", IllegalArgumentException.class, () -> y.coinsAfter(days));
            Check.dueThrow("trustAfter(1, " + days + ")", IllegalArgumentException.class, () -> y.trustAfter(1, days));
            for (int village : new int[] {MIN, -1, 2, 6, MAX}) {
                Check.dueThrow("trustAfter(" + village + ", " + days + ")", IndexOutOfBoundsException.class, () -> y.trustAfter(village, days));
            }
        }
        for (int village : new int[] {MIN, -1, 2, 6, MAX}) {
            Check.dueThrow("trustAfter(" + village + ", 0)", IndexOutOfBoundsException.class, () -> y.trustAfter(village, 0));
            Check.dueThrow("trustAfter(" + village + ", 200)", IndexOutOfBoundsException.class, () -> y.trustAfter(village, 200));
        }
        AlmanacOffice z = Check.loaded(TEXTS[2] + "village a 1 100;fair f a 1 9 7;say a 2 sun;say a 3 sun;");
        // Day 1 sells both for 7 each; day 2 takes 17 back, and day 3 too.
        int[] coins = {0, 14, -3, -20};
        for (int days = 0; days <= 3; days++) Check.due("coinsAfter(" + days + ")", z.coinsAfter(days), coins[days]);
        Check.due("coinsAfter(200)", z.coinsAfter(200), -20);
        Check.due("trustAfter(0, 200)", z.trustAfter(0, 200), 60);
        Check.due("coins are as before", z.coins(), 0);
        Check.due("coinsAfter without villages", Check.loaded(TEXTS[0]).coinsAfter(200), 0);
    }

    private static void emptying() {
        Check.about("daysUntilEmpty: the smallest number of days, 0 to 200, after which there are no forecasts in the book");
        AlmanacOffice x = Check.loaded(TEXTS[0] + "village a 1 1;village b 1 1;pass 100;");
        Check.due("of an empty book", x.daysUntilEmpty(), 0);
        x.print(0, 101, 0);
        Check.due("of tomorrow", x.daysUntilEmpty(), 1);
        x.print(1, 130, 1);
        Check.due("of day 130", x.daysUntilEmpty(), 30);
        x.print(0, 129, 1);
        Check.due("of day 130 and others", x.daysUntilEmpty(), 30);
        x.pass(29);
        Check.due("on the day before", x.daysUntilEmpty(), 1);
        Check.due("forecastCount on the day before", x.forecastCount(), 1);
        x.pass(1);
        Check.due("on the day", x.daysUntilEmpty(), 0);
        Check.due("forecastCount on the day", x.forecastCount(), 0);
        x.print(0, 140, 0);
        x.print(0, 150, 0);
        x.print(0, 145, 0);
        Check.due("of day 150 in the middle", x.daysUntilEmpty(), 20);
        x.retract(0);
        Check.due("after retract", x.daysUntilEmpty(), 0);
    }

    private static void counters() {
        Check.about("hits, regrets and retractions: since the latest load, including the text");
        String text = TEXTS[0] + "village a 1 50;say a 1 sun;say a 2 rain;say a 3 sun;say a 9 sun;say a 8 sun;pass 3;retract 0;";
        AlmanacOffice x = Check.loaded(text);
        for (int round = 0; round < 2; round++) {
            Check.due("hits of the text", x.hits(), 2);
            Check.due("regrets of the text", x.regrets(), 1);
            Check.due("retractions of the text", x.retractions(), 2);
            Check.due("regretCount of the text", x.regretCount(), 1);
            x.print(0, 4, 0);
            x.print(0, 5, 1);
            x.pass(2);
            x.print(0, 7, 0);
            x.retract(0);
            Check.due("hits", x.hits(), 3);
            Check.due("regrets", x.regrets(), 2);
            Check.due("retractions", x.retractions(), 3);
            Check.load(x, text);
        }
        AlmanacOffice y = Check.loaded(TEXTS[0]);
        Check.due("all of an empty text", y.hits() + y.regrets() + y.retractions() + y.regretCount(), 0);
    }

    private static void differences() {
        Check.about("copyDifference, coinDifference and bookErrors: this is always 0");
        AlmanacOffice x = Check.loaded("almanac 3 4 3 5;village a 50 50;village b 40 90;fair f a 2 30 3;fair g b 1 20 4;say a 3 sun;say b 9 rain;");
        zero(x, "at first");
        for (int day = 1; day <= 20; day++) {
            x.print(day % 2, day + 1 + day % 5 * 5, day % 3);
            zero(x, "after print " + day);
            x.pass(1);
            zero(x, "on day " + day);
            if (day % 6 == 5 && x.canRetract(0)) {
                x.retract(0);
                zero(x, "after retract on day " + day);
            }
        }
        Check.due("there were hits, regrets and retractions", x.hits() > 0 && x.regrets() > 0 && x.retractions() > 0, true);
        x.save(0);
        x.pass(20);
        zero(x, "later");
        x.restore(0);
        zero(x, "after restore");
        x.undo();
        zero(x, "after undo");
        Check.load(x, TEXTS[0] + "village a 1 1;");
        zero(x, "after load");
    }

    private static void zero(AlmanacOffice x, String when) {
        Check.due("copyDifference " + when, x.copyDifference(), 0);
        Check.due("coinDifference " + when, x.coinDifference(), 0);
        Check.due("bookErrors " + when, x.bookErrors(), 0);
    }

    private static void shares() {
        Check.about("hitShare: the hits converted to float, divided by the hits and regrets together converted to float; 0.0f if there are none");
        int[][] rows = {{0, 0}, {1, 0}, {0, 1}, {1, 1}, {1, 2}, {2, 1}, {1, 6}, {7, 3}, {29, 1}, {13, 17}};
        for (int[] row : rows) {
            AlmanacOffice x = Check.loaded(TEXTS[0] + "village a 1 1;");
            for (int i = 1; i <= row[0] + row[1]; i++) x.print(0, i, i <= row[0] ? 0 : 1);
            x.pass(30);
            float want = row[0] + row[1] == 0 ? 0.0f : (float) row[0] / (float) (row[0] + row[1]);
            Check.dueDouble("hitShare of " + row[0] + " and " + row[1], x.hitShare(), want);
        }
        Check.about("averageTrust: the sum of the trusts of all villages converted to double, divided by their number converted to double; 0.0 if there are none");
        int[] trusts = {0, 100, 1, 50, 99, 33};
        StringBuilder text = new StringBuilder(TEXTS[0]);
        double sum = 0;
        Check.dueDouble("averageTrust of none", Check.loaded(text.toString()).averageTrust(), 0.0);
        for (int i = 0; i < 6; i++) {
            text.append("village ").append((char) ('a' + i)).append(" 1 ").append(trusts[i]).append(';');
            sum += trusts[i];
            Check.dueDouble("averageTrust of " + (i + 1), Check.loaded(text.toString()).averageTrust(), sum / (i + 1));
        }
    }

    /** The most that 512 calls can do. */
    private static void manyDays() {
        Check.about("An object is used for at most 512 calls after it has been made.");
        AlmanacOffice x = new AlmanacOffice();
        for (int i = 1; i <= 500; i++) x.pass(200);
        Check.due("day after 500 calls", x.day(), 100003);
        Check.due("print", x.print(1, 100033, 2), 0);
        Check.due("forecastAt(0)", x.forecastAt(0), 1000331);
        Check.due("daysUntilFair(0)", x.daysUntilFair(0), 2);
        Check.due("daysUntilEmpty", x.daysUntilEmpty(), 30);
        Check.due("undo", x.undo() + x.undo(), 13);
        Check.due("day after undo", x.day(), 99803);
    }
}
