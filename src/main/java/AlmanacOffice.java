import java.util.NoSuchElementException;

/** An almanac office: forecasts are printed, sold at fairs, judged by the weather, and retracted. */
public final class AlmanacOffice {
    public static final int NONE = -1;
    public static final int SUN = 0, RAIN = 1, STORM = 2;

    private static final String FIRST_TEXT = "almanac 7 9 6 5;village bree 40 50;village dale 20 80;fair mart bree 3 30 4;fair wake dale 2 9 7;say bree 5 rain;say dale 3 sun;say bree 2 sun;say dale 9 storm;say bree 8 sun;pass 3;";
    private static final int WEATHERS = 3;
    private static final int MOST_ODDS = 20;
    private static final int MOST_TRUST = 100;
    private static final int MOST_PEOPLE = 99;
    private static final int MOST_DAYS = 200;
    private static final int MOST_VILLAGES = 6;
    private static final int MOST_FAIRS = 6;
    private static final int MOST_FORECASTS = 30;
    private static final int DAYS_AHEAD = 30;
    private static final int PAGE_SIZE = 4;
    private static final int YEAR = 12;
    private static final int LETTERS = 4;
    private static final int NO_NAME = 0;
    private static final int SLOTS = 2;

    private final Bytes input = new Bytes();
    private final Bytes output = new Bytes();
    private final State state = new State();
    /** Holds what a text builds and what the future brings, until it is known whether it counts. */
    private final State draft = new State();
    private final History history = new History();
    private final State[] slots = {new State(), new State()};
    private final boolean[] slotIsFull = new boolean[SLOTS];
    private int errorCode = 0;
    private int errorPosition = NONE;

    public AlmanacOffice() {
        Bytes text = new Bytes();
        text.putText(FIRST_TEXT);
        State first = new State();
        new Parser(text, first).readText();
        state.takeFrom(first);
    }

    public int appendInput(int a, int b, int c, int d, int e) throws IllegalStateException {
        if (!input.hasRoomFor(20)) throw new IllegalStateException();
        input.putFour(a);
        input.putFour(b);
        input.putFour(c);
        input.putFour(d);
        input.putFour(e);
        return input.length;
    }

    public int truncateInput(int length) throws IllegalArgumentException {
        requireRange(length, 0, input.length);
        input.length = length;
        return length;
    }

    public int load() throws IllegalArgumentException {
        draft.clear();
        Parser parser = new Parser(input, draft);
        boolean right = parser.readText();
        input.length = 0;
        errorCode = parser.errorCode;
        errorPosition = parser.errorPosition;
        if (!right) throw new IllegalArgumentException();
        history.remember(state);
        state.takeFrom(draft);
        return state.villages.count;
    }

    public int errorCode() {
        return errorCode;
    }

    public int errorPosition() {
        return errorPosition;
    }

    public int day() {
        return state.day;
    }

    public int seed() {
        return state.sky.seed;
    }

    public int coins() {
        return state.coins;
    }

    public int villageCount() {
        return state.villages.count;
    }

    public int fairCount() {
        return state.fairs.count;
    }

    public int findName() {
        int name = input.nameBetween(0, input.length);
        int village = state.villages.numberOf(name);
        if (village != NONE) return village;
        int fair = state.fairs.numberOf(name);
        return fair == NONE ? NONE : 100 + fair;
    }

    public int peopleOf(int village) throws IndexOutOfBoundsException {
        requireVillage(village);
        return state.villages.people[village];
    }

    public int trustOf(int village) throws IndexOutOfBoundsException {
        requireVillage(village);
        return state.villages.trusts[village];
    }

    public int forecastsFor(int village) throws IndexOutOfBoundsException {
        requireVillage(village);
        return state.book.countFor(village);
    }

    public int fairVillage(int fair) throws IndexOutOfBoundsException {
        requireFair(fair);
        return state.fairs.villages[fair];
    }

    public int periodOf(int fair) throws IndexOutOfBoundsException {
        requireFair(fair);
        return state.fairs.periods[fair];
    }

    public int stockOf(int fair) throws IndexOutOfBoundsException {
        requireFair(fair);
        return state.fairs.stocks[fair];
    }

    public int priceOf(int fair) throws IndexOutOfBoundsException {
        requireFair(fair);
        return state.fairs.prices[fair];
    }

    public int daysUntilFair(int fair) throws IndexOutOfBoundsException {
        requireFair(fair);
        return state.fairs.daysUntil(fair, state.day);
    }

    public int oddsOf(int weather) throws IllegalArgumentException {
        requireRange(weather, SUN, STORM);
        return state.sky.odds[weather];
    }

    public double chanceOf(int weather) throws IllegalArgumentException {
        requireRange(weather, SUN, STORM);
        int sum = state.sky.sumOfOdds();
        return sum == 0 ? 0.0 : (double) state.sky.odds[weather] / (double) sum;
    }

    public int drawnThisYear(int weather) throws IllegalArgumentException {
        requireRange(weather, SUN, STORM);
        return state.sky.drawn[weather];
    }

    public int forecastCount() {
        return state.book.count;
    }

    public boolean hasForecast(int village, int day) throws IndexOutOfBoundsException {
        requireVillage(village);
        return state.book.placeOf(village, day) != NONE;
    }

    public int weatherOf(int village, int day) throws IndexOutOfBoundsException, NoSuchElementException {
        return state.book.weathers[requireForecast(village, day)];
    }

    public int soldOf(int village, int day) throws IndexOutOfBoundsException, NoSuchElementException {
        return state.book.sold[requireForecast(village, day)];
    }

    public int paidOf(int village, int day) throws IndexOutOfBoundsException, NoSuchElementException {
        return state.book.paid[requireForecast(village, day)];
    }

    public int pageOf(int village, int day) throws IndexOutOfBoundsException, NoSuchElementException {
        return requireForecast(village, day) / PAGE_SIZE;
    }

    public int forecastAt(int place) throws NoSuchElementException {
        if (!isBetween(place, 0, state.book.count - 1)) throw new NoSuchElementException();
        return state.book.labelAt(place);
    }

    public int pageCount() {
        return state.book.pages();
    }

    public int refundOf(int page) throws NoSuchElementException {
        requirePage(page);
        return state.book.paidForPage(page);
    }

    public boolean canRetract(int page) throws NoSuchElementException {
        requirePage(page);
        return state.canPayBackPage(page);
    }

    public int printRefusal(int village, int day) throws IndexOutOfBoundsException {
        requireVillage(village);
        return state.refusalToPrint(village, day);
    }

    public int likeliestWeather() {
        return Sky.firstGreatest(state.sky.odds);
    }

    public int tomorrowIn(int village) throws IndexOutOfBoundsException {
        requireVillage(village);
        int seed = state.sky.seed;
        for (int i = 0; i <= village; i++) seed = Sky.seedAfter(seed);
        return state.sky.weatherFor(seed);
    }

    public int regretCount() {
        return state.memory.count;
    }

    public int regretAt(int index) throws IndexOutOfBoundsException {
        if (!isBetween(index, 0, state.memory.count - 1)) throw new IndexOutOfBoundsException();
        return state.memory.labels[index];
    }

    public int hits() {
        return state.hits;
    }

    public int regrets() {
        return state.regrets;
    }

    public int retractions() {
        return state.retractions;
    }

    public int coinsAfter(int days) throws IllegalArgumentException {
        requireRange(days, 0, MOST_DAYS);
        lookAhead(days);
        return draft.coins;
    }

    public int trustAfter(int village, int days) throws IndexOutOfBoundsException, IllegalArgumentException {
        requireVillage(village);
        requireRange(days, 0, MOST_DAYS);
        lookAhead(days);
        return draft.villages.trusts[village];
    }

    public int daysUntilEmpty() {
        // A forecast leaves the book on its day at the latest, so the last one empties it.
        return state.book.count == 0 ? 0 : state.book.latestDay() - state.day;
    }

    public int bestSeller() {
        int best = state.book.placeOfBestSeller();
        return best == NONE ? NONE : state.book.labelAt(best);
    }

    public int copyDifference() {
        return state.copiesSold - state.book.copies() - state.copiesGone;
    }

    public int coinDifference() {
        return state.coinsEarned - state.coinsPaidBack - state.coins;
    }

    public int bookErrors() {
        return state.book.errors();
    }

    public float hitShare() {
        int judged = state.hits + state.regrets;
        return judged == 0 ? 0.0f : (float) state.hits / (float) judged;
    }

    public double averageTrust() {
        int count = state.villages.count;
        return count == 0 ? 0.0 : (double) state.villages.sumOfTrusts() / (double) count;
    }

    public int print(int village, int day, int weather) throws IndexOutOfBoundsException, IllegalArgumentException, IllegalStateException {
        requireVillage(village);
        requireRange(weather, SUN, STORM);
        if (state.refusalToPrint(village, day) != 0) throw new IllegalStateException();
        history.remember(state);
        state.book.add(village, day, weather);
        return (state.book.count - 1) / PAGE_SIZE;
    }

    public int retract(int page) throws NoSuchElementException, IllegalStateException {
        requirePage(page);
        if (!state.canPayBackPage(page)) throw new IllegalStateException();
        history.remember(state);
        return state.takeBackPage(page);
    }

    public int setTrust(int village, int trust) throws IndexOutOfBoundsException, IllegalArgumentException {
        requireVillage(village);
        requireRange(trust, 0, MOST_TRUST);
        history.remember(state);
        int former = state.villages.trusts[village];
        state.villages.trusts[village] = trust;
        return former;
    }

    public int setPeople(int village, int people) throws IndexOutOfBoundsException, IllegalArgumentException {
        requireVillage(village);
        requireRange(people, 1, MOST_PEOPLE);
        history.remember(state);
        int former = state.villages.people[village];
        state.villages.people[village] = people;
        return former;
    }

    public int setOdds(int weather, int odds) throws IllegalArgumentException, IllegalStateException {
        requireRange(weather, SUN, STORM);
        requireRange(odds, 0, MOST_ODDS);
        int former = state.sky.odds[weather];
        if (state.sky.sumOfOdds() - former + odds == 0) throw new IllegalStateException();
        history.remember(state);
        state.sky.odds[weather] = odds;
        return former;
    }

    public int pass(int days) throws IllegalArgumentException {
        requireRange(days, 1, MOST_DAYS);
        history.remember(state);
        int before = state.regrets;
        state.letDaysPass(days);
        return state.regrets - before;
    }

    public int writePage(int page) throws NoSuchElementException {
        requirePage(page);
        output.length = 0;
        int start = state.book.startOf(page);
        int end = state.book.endOf(page);
        for (int place = start; place < end; place++) {
            if (place > start) output.put(' ');
            writeForecast(place);
        }
        return output.length;
    }

    public int outputByte(int position) throws NoSuchElementException {
        if (!isBetween(position, 0, output.length - 1)) throw new NoSuchElementException();
        return output.at(position);
    }

    public int save(int slot) throws IndexOutOfBoundsException {
        requireSlot(slot);
        slots[slot].takeFrom(state);
        slotIsFull[slot] = true;
        return state.day;
    }

    public int restore(int slot) throws IndexOutOfBoundsException, IllegalStateException {
        requireSlot(slot);
        if (!slotIsFull[slot]) throw new IllegalStateException();
        history.remember(state);
        state.takeFrom(slots[slot]);
        return state.day;
    }

    public int undo() throws IllegalStateException {
        if (history.count == 0) throw new IllegalStateException();
        history.bringBack(state);
        return history.count;
    }

    private void requireVillage(int village) {
        if (!state.villages.has(village)) throw new IndexOutOfBoundsException();
    }

    private void requireFair(int fair) {
        if (!state.fairs.has(fair)) throw new IndexOutOfBoundsException();
    }

    private void requirePage(int page) {
        if (!state.book.hasPage(page)) throw new NoSuchElementException();
    }

    private void requireSlot(int slot) {
        if (!isBetween(slot, 0, SLOTS - 1)) throw new IndexOutOfBoundsException();
    }

    private void requireRange(int value, int least, int most) {
        if (!isBetween(value, least, most)) throw new IllegalArgumentException();
    }

    /** The place in the book of the forecast that a question is about. */
    private int requireForecast(int village, int day) {
        requireVillage(village);
        int place = state.book.placeOf(village, day);
        if (place == NONE) throw new NoSuchElementException();
        return place;
    }

    private void lookAhead(int days) {
        draft.takeFrom(state);
        draft.letDaysPass(days);
    }

    private void writeForecast(int place) {
        output.putName(state.villages.names[state.book.villages[place]]);
        output.putDecimal(state.book.days[place]);
        int weather = state.book.weathers[place];
        output.put(weather == SUN ? 's' : weather == RAIN ? 'r' : 't');
    }

    private static boolean isBetween(int value, int least, int most) {
        return value >= least && value <= most;
    }

    private static boolean isLetter(int sign) {
        return sign >= 'a' && sign <= 'z';
    }

    private static boolean isDigit(int sign) {
        return sign >= '0' && sign <= '9';
    }

    /** The first place of a value in the used part of a row; NONE if it is not there. */
    private static int placeIn(int[] row, int used, int value) {
        for (int i = 0; i < used; i++) {
            if (row[i] == value) return i;
        }
        return NONE;
    }

    /** Some day of some village as one number, in the form of the face's answers. */
    private static int labelOf(int village, int day) {
        return 10 * day + village;
    }

    /** A row of bytes with an end: the input or the output. */
    private static final class Bytes {
        static final int MOST = 600;
        private final byte[] row = new byte[MOST];
        int length = 0;

        boolean hasRoomFor(int more) {
            return length + more <= MOST;
        }

        void put(int sign) {
            if (length >= MOST) return;
            row[length] = (byte) sign;
            length++;
        }

        void putFour(int signs) {
            for (int shift = 24; shift >= 0; shift -= 8) put(signs >>> shift);
        }

        void putText(String text) {
            for (int i = 0; i < text.length(); i++) put(text.charAt(i));
        }

        void putName(int name) {
            for (int shift = 24; shift >= 0; shift -= 8) {
                int letter = name >>> shift & 255;
                if (letter != 0) put(letter);
            }
        }

        void putDecimal(int number) {
            for (int unit = 1000000000; unit >= 1; unit /= 10) {
                if (number >= unit || unit == 1) put('0' + number / unit % 10);
            }
        }

        /** The byte at a position, 0 to 255; NONE before the first and behind the last one. */
        int at(int position) {
            return position >= 0 && position < length ? row[position] & 255 : NONE;
        }

        /** The name between two positions, its letters packed into one number; NO_NAME if there is none. */
        int nameBetween(int start, int end) {
            if (end - start > LETTERS) return NO_NAME;
            int name = NO_NAME;
            for (int i = start; i < end; i++) {
                int letter = at(i);
                if (!isLetter(letter)) return NO_NAME;
                name = name << 8 | letter;
            }
            return name;
        }
    }

    /** The villages by their numbers. */
    private static final class Villages {
        final int[] names = new int[MOST_VILLAGES];
        final int[] people = new int[MOST_VILLAGES];
        final int[] trusts = new int[MOST_VILLAGES];
        int count = 0;

        boolean has(int village) {
            return village >= 0 && village < count;
        }

        int numberOf(int name) {
            return placeIn(names, count, name);
        }

        void add(int name, int itsPeople, int itsTrust) {
            if (count >= MOST_VILLAGES) return;
            names[count] = name;
            people[count] = itsPeople;
            trusts[count] = itsTrust;
            count++;
        }

        void changeTrust(int village, int change) {
            if (!has(village)) return;
            int trust = trusts[village] + change;
            trusts[village] = trust < 0 ? 0 : trust > MOST_TRUST ? MOST_TRUST : trust;
        }

        /** How many more copies of a forecast the village would buy. */
        int wish(int village, int sold) {
            if (!has(village) || people[village] <= sold) return 0;
            return (people[village] - sold) * trusts[village] / 100;
        }

        int sumOfTrusts() {
            int sum = 0;
            for (int i = 0; i < count; i++) sum += trusts[i];
            return sum;
        }

        void takeFrom(Villages other) {
            System.arraycopy(other.names, 0, names, 0, MOST_VILLAGES);
            System.arraycopy(other.people, 0, people, 0, MOST_VILLAGES);
            System.arraycopy(other.trusts, 0, trusts, 0, MOST_VILLAGES);
            count = other.count;
        }
    }

    /** The fairs by their numbers. */
    private static final class Fairs {
        final int[] names = new int[MOST_FAIRS];
        final int[] villages = new int[MOST_FAIRS];
        final int[] periods = new int[MOST_FAIRS];
        final int[] stocks = new int[MOST_FAIRS];
        final int[] prices = new int[MOST_FAIRS];
        int count = 0;

        boolean has(int fair) {
            return fair >= 0 && fair < count;
        }

        int numberOf(int name) {
            return placeIn(names, count, name);
        }

        void add(int name, int village, int period, int stock, int price) {
            if (count >= MOST_FAIRS) return;
            names[count] = name;
            villages[count] = village;
            periods[count] = period;
            stocks[count] = stock;
            prices[count] = price;
            count++;
        }

        int daysUntil(int fair, int day) {
            int period = periods[fair];
            return period < 1 ? NONE : period - (day + fair) % period;
        }

        boolean isHeld(int fair, int day) {
            int period = periods[fair];
            return period >= 1 && (day + fair) % period == 0;
        }

        void takeFrom(Fairs other) {
            System.arraycopy(other.names, 0, names, 0, MOST_FAIRS);
            System.arraycopy(other.villages, 0, villages, 0, MOST_FAIRS);
            System.arraycopy(other.periods, 0, periods, 0, MOST_FAIRS);
            System.arraycopy(other.stocks, 0, stocks, 0, MOST_FAIRS);
            System.arraycopy(other.prices, 0, prices, 0, MOST_FAIRS);
            count = other.count;
        }
    }

    /** The seed and the odds that the weather is drawn with, and what was drawn this year. */
    private static final class Sky {
        final int[] odds = new int[WEATHERS];
        final int[] drawn = new int[WEATHERS];
        int seed = 0;

        int sumOfOdds() {
            return odds[SUN] + odds[RAIN] + odds[STORM];
        }

        static int seedAfter(int former) {
            return (29 * former + 11) % 1024;
        }

        int weatherFor(int newSeed) {
            int sum = sumOfOdds();
            int v = sum < 1 ? 0 : newSeed % sum;
            if (v < odds[SUN]) return SUN;
            return v < odds[SUN] + odds[RAIN] ? RAIN : STORM;
        }

        int draw() {
            seed = seedAfter(seed);
            int weather = weatherFor(seed);
            drawn[weather]++;
            return weather;
        }

        static int firstGreatest(int[] row) {
            int best = SUN;
            for (int weather = RAIN; weather <= STORM; weather++) {
                if (row[weather] > row[best]) best = weather;
            }
            return best;
        }

        private static int lastLeast(int[] row) {
            int best = SUN;
            for (int weather = RAIN; weather <= STORM; weather++) {
                if (row[weather] <= row[best]) best = weather;
            }
            return best;
        }

        void closeYear() {
            int most = firstGreatest(drawn);
            if (odds[most] < MOST_ODDS) odds[most]++;
            int least = lastLeast(drawn);
            if (odds[least] > 0) odds[least]--;
            for (int weather = SUN; weather <= STORM; weather++) drawn[weather] = 0;
        }

        void takeFrom(Sky other) {
            System.arraycopy(other.odds, 0, odds, 0, WEATHERS);
            System.arraycopy(other.drawn, 0, drawn, 0, WEATHERS);
            seed = other.seed;
        }
    }

    /** The forecasts in the order in which they were printed. */
    private static final class Book {
        final int[] villages = new int[MOST_FORECASTS];
        final int[] days = new int[MOST_FORECASTS];
        final int[] weathers = new int[MOST_FORECASTS];
        final int[] sold = new int[MOST_FORECASTS];
        final int[] paid = new int[MOST_FORECASTS];
        int count = 0;

        int placeOf(int village, int day) {
            for (int i = 0; i < count; i++) {
                if (villages[i] == village && days[i] == day) return i;
            }
            return NONE;
        }

        int labelAt(int place) {
            return labelOf(villages[place], days[place]);
        }

        int countFor(int village) {
            int found = 0;
            for (int i = 0; i < count; i++) {
                if (villages[i] == village) found++;
            }
            return found;
        }

        void add(int village, int day, int weather) {
            if (count >= MOST_FORECASTS) return;
            villages[count] = village;
            days[count] = day;
            weathers[count] = weather;
            sold[count] = 0;
            paid[count] = 0;
            count++;
        }

        /** Lets the forecasts from start up to, but without, end leave the book. */
        void remove(int start, int end) {
            if (start < 0 || start > end || end > count) return;
            int behind = count - end;
            System.arraycopy(villages, end, villages, start, behind);
            System.arraycopy(days, end, days, start, behind);
            System.arraycopy(weathers, end, weathers, start, behind);
            System.arraycopy(sold, end, sold, start, behind);
            System.arraycopy(paid, end, paid, start, behind);
            count = start + behind;
        }

        int pages() {
            return (count + PAGE_SIZE - 1) / PAGE_SIZE;
        }

        boolean hasPage(int page) {
            return page >= 0 && page < pages();
        }

        int startOf(int page) {
            return PAGE_SIZE * page;
        }

        int endOf(int page) {
            return Math.min(count, PAGE_SIZE * page + PAGE_SIZE);
        }

        int paidForPage(int page) {
            int sum = 0;
            for (int i = startOf(page); i < endOf(page); i++) sum += paid[i];
            return sum;
        }

        int copies() {
            int sum = 0;
            for (int i = 0; i < count; i++) sum += sold[i];
            return sum;
        }

        int latestDay() {
            int latest = 0;
            for (int i = 0; i < count; i++) latest = Math.max(latest, days[i]);
            return latest;
        }

        int placeOfBestSeller() {
            int best = count == 0 ? NONE : 0;
            for (int i = 1; i < count; i++) {
                if (sold[i] > sold[best]) best = i;
            }
            return best;
        }

        /** A forecast that is lost, and the second one for a village and a day, are both found elsewhere than they stand. */
        int errors() {
            int wrong = 0;
            for (int i = 0; i < count; i++) {
                if (placeOf(villages[i], days[i]) != i) wrong++;
            }
            return wrong;
        }

        void takeFrom(Book other) {
            System.arraycopy(other.villages, 0, villages, 0, MOST_FORECASTS);
            System.arraycopy(other.days, 0, days, 0, MOST_FORECASTS);
            System.arraycopy(other.weathers, 0, weathers, 0, MOST_FORECASTS);
            System.arraycopy(other.sold, 0, sold, 0, MOST_FORECASTS);
            System.arraycopy(other.paid, 0, paid, 0, MOST_FORECASTS);
            count = other.count;
        }
    }

    /** The latest regrets, the oldest first. */
    private static final class Memory {
        static final int MOST = 10;
        final int[] labels = new int[MOST];
        int count = 0;

        void add(int village, int day) {
            if (count >= MOST) {
                System.arraycopy(labels, 1, labels, 0, MOST - 1);
                count = MOST - 1;
            }
            labels[count] = labelOf(village, day);
            count++;
        }

        void takeFrom(Memory other) {
            System.arraycopy(other.labels, 0, labels, 0, MOST);
            count = other.count;
        }
    }

    /** All that undo brings back and that a slot keeps. */
    private static final class State {
        final Villages villages = new Villages();
        final Fairs fairs = new Fairs();
        final Sky sky = new Sky();
        final Book book = new Book();
        final Memory memory = new Memory();
        int day = 0;
        int coins = 0;
        int hits = 0;
        int regrets = 0;
        int retractions = 0;
        int copiesSold = 0;
        /** The copies of the forecasts that have left the book. */
        int copiesGone = 0;
        int coinsEarned = 0;
        int coinsPaidBack = 0;

        /** Empties the rows; the seed and the odds stay, as every text begins with its own. */
        void clear() {
            villages.count = 0;
            fairs.count = 0;
            book.count = 0;
            memory.count = 0;
            for (int weather = SUN; weather <= STORM; weather++) sky.drawn[weather] = 0;
            day = 0;
            coins = 0;
            hits = 0;
            regrets = 0;
            retractions = 0;
            copiesSold = 0;
            copiesGone = 0;
            coinsEarned = 0;
            coinsPaidBack = 0;
        }

        void takeFrom(State other) {
            villages.takeFrom(other.villages);
            fairs.takeFrom(other.fairs);
            sky.takeFrom(other.sky);
            book.takeFrom(other.book);
            memory.takeFrom(other.memory);
            day = other.day;
            coins = other.coins;
            hits = other.hits;
            regrets = other.regrets;
            retractions = other.retractions;
            copiesSold = other.copiesSold;
            copiesGone = other.copiesGone;
            coinsEarned = other.coinsEarned;
            coinsPaidBack = other.coinsPaidBack;
        }

        /** 0 if a forecast can be printed, otherwise the number of the first reason against it. */
        int refusalToPrint(int village, int itsDay) {
            if (!isBetween(itsDay, day + 1, day + DAYS_AHEAD)) return 1;
            if (book.placeOf(village, itsDay) != NONE) return 2;
            return book.count >= MOST_FORECASTS ? 3 : 0;
        }

        boolean canPayBackPage(int page) {
            return coins >= book.paidForPage(page);
        }

        int takeBackPage(int page) {
            int refund = book.paidForPage(page);
            int start = book.startOf(page);
            int end = book.endOf(page);
            for (int place = start; place < end; place++) {
                villages.changeTrust(book.villages[place], -5);
                copiesGone += book.sold[place];
                retractions++;
            }
            book.remove(start, end);
            payBack(refund);
            return refund;
        }

        void letDaysPass(int days) {
            for (int i = 0; i < days; i++) {
                day++;
                for (int fair = 0; fair < fairs.count; fair++) {
                    if (fairs.isHeld(fair, day)) sellAt(fair);
                }
                for (int village = 0; village < villages.count; village++) {
                    judge(village, sky.draw());
                }
                if (day % YEAR == 0) sky.closeYear();
            }
        }

        private void sellAt(int fair) {
            int village = fairs.villages[fair];
            int left = fairs.stocks[fair];
            for (int place = 0; place < book.count; place++) {
                if (book.villages[place] == village && book.days[place] > day) {
                    int copies = Math.min(left, villages.wish(village, book.sold[place]));
                    int price = copies * fairs.prices[fair];
                    left -= copies;
                    book.sold[place] += copies;
                    book.paid[place] += price;
                    copiesSold += copies;
                    coinsEarned += price;
                    coins += price;
                }
            }
        }

        /** Settles the forecast of a village for the present day, if there is one. */
        private void judge(int village, int drawn) {
            int place = book.placeOf(village, day);
            if (place == NONE) return;
            int paid = book.paid[place];
            if (book.weathers[place] == drawn) {
                hits++;
                villages.changeTrust(village, 5);
            } else {
                regrets++;
                memory.add(village, day);
                payBack(drawn == STORM ? paid + 10 : paid / 2);
                villages.changeTrust(village, drawn == STORM ? -20 : -10);
            }
            copiesGone += book.sold[place];
            book.remove(place, place + 1);
        }

        private void payBack(int refund) {
            coins -= refund;
            coinsPaidBack += refund;
        }
    }

    /** The states before the latest undoable calls, in a ring. */
    private static final class History {
        static final int MOST = 8;
        private final State[] past = new State[MOST];
        private int next = 0;
        int count = 0;

        History() {
            for (int i = 0; i < MOST; i++) past[i] = new State();
        }

        void remember(State present) {
            past[next].takeFrom(present);
            next = (next + 1) % MOST;
            if (count < MOST) count++;
        }

        void bringBack(State present) {
            if (count == 0) return;
            next = (next + MOST - 1) % MOST;
            present.takeFrom(past[next]);
            count--;
        }
    }

    /** Cuts a text into tokens and holds the present one. */
    private static final class Scanner {
        static final int END = 0, WORD = 1, NUMBER = 2, SIGN = 3;
        /** Beyond every range, so that a number of any length stays out of range and in an int. */
        private static final int HUGE = 1000000;
        private final Bytes text;
        int kind = END;
        int start = 0;
        int end = 0;
        int number = 0;

        Scanner(Bytes text) {
            this.text = text;
        }

        void next() {
            start = end;
            while (start < text.length && isBlank(text.at(start))) start++;
            end = start;
            int first = text.at(start);
            if (first == NONE) {
                kind = END;
            } else if (isLetter(first)) {
                kind = WORD;
                while (end < text.length && isLetter(text.at(end))) end++;
            } else if (isDigit(first)) {
                kind = NUMBER;
                readDigits();
            } else {
                kind = SIGN;
                end++;
            }
        }

        private boolean isBlank(int sign) {
            return sign == ' ' || sign == '\n';
        }

        private void readDigits() {
            number = 0;
            while (end < text.length && isDigit(text.at(end))) {
                number = Math.min(HUGE, 10 * number + text.at(end) - '0');
                end++;
            }
        }

        boolean isWord(String word) {
            if (kind != WORD || end - start != word.length()) return false;
            for (int i = 0; i < word.length(); i++) {
                if (text.at(start + i) != word.charAt(i)) return false;
            }
            return true;
        }

        boolean isSemicolon() {
            return kind == SIGN && text.at(start) == ';';
        }

        int name() {
            return text.nameBetween(start, end);
        }
    }

    /** Executes the statements of a text on a cleared state, up to the first error. */
    private static final class Parser {
        private static final int NOT_ALLOWED = 1, OUT_OF_RANGE = 2, NAME_TAKEN = 3, UNKNOWN = 4, FULL = 5, REFUSED = 6;
        private final Scanner scanner;
        private final State state;
        int errorCode = 0;
        int errorPosition = NONE;

        Parser(Bytes text, State state) {
            this.scanner = new Scanner(text);
            this.state = state;
        }

        boolean readText() {
            if (!readAlmanac()) return false;
            scanner.next();
            for (int i = 0; i < Bytes.MOST && scanner.kind != Scanner.END; i++) {
                if (!readStatement()) return false;
                scanner.next();
            }
            return true;
        }

        private boolean readAlmanac() {
            scanner.next();
            if (!scanner.isWord("almanac")) return fail(NOT_ALLOWED);
            if (!readNumber(0, 1023)) return false;
            state.sky.seed = scanner.number;
            for (int weather = SUN; weather <= STORM; weather++) {
                if (!readNumber(0, MOST_ODDS)) return false;
                state.sky.odds[weather] = scanner.number;
            }
            if (state.sky.sumOfOdds() == 0) return fail(OUT_OF_RANGE);
            return readSemicolon();
        }

        private boolean readStatement() {
            if (scanner.isWord("village")) return readVillage();
            if (scanner.isWord("fair")) return readFair();
            if (scanner.isWord("say")) return readSay();
            if (scanner.isWord("retract")) return readRetract();
            if (scanner.isWord("pass")) return readPass();
            return fail(NOT_ALLOWED);
        }

        private boolean readVillage() {
            if (state.villages.count >= MOST_VILLAGES) return fail(FULL);
            if (!readNewName()) return false;
            int name = scanner.name();
            if (!readNumber(1, MOST_PEOPLE)) return false;
            int people = scanner.number;
            if (!readNumber(0, MOST_TRUST)) return false;
            int trust = scanner.number;
            if (!readSemicolon()) return false;
            state.villages.add(name, people, trust);
            return true;
        }

        private boolean readFair() {
            if (state.fairs.count >= MOST_FAIRS) return fail(FULL);
            if (!readNewName()) return false;
            int name = scanner.name();
            if (!readKnownVillage()) return false;
            int village = state.villages.numberOf(scanner.name());
            if (!readNumber(1, 12)) return false;
            int period = scanner.number;
            if (!readNumber(1, 99)) return false;
            int stock = scanner.number;
            if (!readNumber(1, 20)) return false;
            int price = scanner.number;
            if (!readSemicolon()) return false;
            state.fairs.add(name, village, period, stock, price);
            return true;
        }

        private boolean readSay() {
            if (!readKnownVillage()) return false;
            int village = state.villages.numberOf(scanner.name());
            if (!readNumber(0, 9999)) return false;
            int day = scanner.number;
            scanner.next();
            int weather = weatherOfToken();
            if (weather == NONE) return fail(NOT_ALLOWED);
            if (!readSemicolon()) return false;
            if (state.refusalToPrint(village, day) != 0) return fail(REFUSED);
            state.book.add(village, day, weather);
            return true;
        }

        private boolean readRetract() {
            scanner.next();
            if (scanner.kind != Scanner.NUMBER) return fail(NOT_ALLOWED);
            int page = scanner.number;
            if (!state.book.hasPage(page)) return fail(UNKNOWN);
            if (!state.canPayBackPage(page)) return fail(REFUSED);
            if (!readSemicolon()) return false;
            state.takeBackPage(page);
            return true;
        }

        private boolean readPass() {
            if (!readNumber(0, MOST_DAYS)) return false;
            int days = scanner.number;
            if (!readSemicolon()) return false;
            state.letDaysPass(days);
            return true;
        }

        private int weatherOfToken() {
            if (scanner.isWord("sun")) return SUN;
            if (scanner.isWord("rain")) return RAIN;
            return scanner.isWord("storm") ? STORM : NONE;
        }

        private boolean readNewName() {
            scanner.next();
            if (scanner.kind != Scanner.WORD) return fail(NOT_ALLOWED);
            int name = scanner.name();
            if (name == NO_NAME) return fail(OUT_OF_RANGE);
            boolean taken = state.villages.numberOf(name) != NONE || state.fairs.numberOf(name) != NONE;
            return !taken || fail(NAME_TAKEN);
        }

        private boolean readKnownVillage() {
            scanner.next();
            if (scanner.kind != Scanner.WORD) return fail(NOT_ALLOWED);
            return state.villages.numberOf(scanner.name()) != NONE || fail(UNKNOWN);
        }

        private boolean readNumber(int least, int most) {
            scanner.next();
            if (scanner.kind != Scanner.NUMBER) return fail(NOT_ALLOWED);
            return isBetween(scanner.number, least, most) || fail(OUT_OF_RANGE);
        }

        private boolean readSemicolon() {
            scanner.next();
            return scanner.isSemicolon() || fail(NOT_ALLOWED);
        }

        private boolean fail(int code) {
            errorCode = code;
            errorPosition = scanner.start;
            return false;
        }
    }
}
