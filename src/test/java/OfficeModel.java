import java.math.BigInteger;
import java.util.ArrayList;
import java.util.Arrays;
import java.util.List;
import java.util.NoSuchElementException;
import java.util.regex.Matcher;
import java.util.regex.Pattern;

/** The document once more, written apart from the program and as plainly as the Java library allows. */
public final class OfficeModel {
    static final class Village {
        String name;
        int people;
        int trust;
    }

    static final class Fair {
        String name;
        int village;
        int period;
        int stock;
        int price;
    }

    static final class Forecast {
        int village;
        int day;
        int weather;
        int sold;
        int paid;
    }

    static final class World {
        List<Village> villages = new ArrayList<>();
        List<Fair> fairs = new ArrayList<>();
        List<Forecast> book = new ArrayList<>();
        List<Integer> regretted = new ArrayList<>();
        int[] odds = new int[3];
        int[] drawn = new int[3];
        int seed;
        int day;
        int coins;
        int hits;
        int regrets;
        int retractions;

        World copy() {
            World w = new World();
            for (Village v : villages) w.villages.add(village(v.name, v.people, v.trust));
            for (Fair f : fairs) w.fairs.add(fair(f.name, f.village, f.period, f.stock, f.price));
            for (Forecast f : book) {
                Forecast g = forecast(f.village, f.day, f.weather);
                g.sold = f.sold;
                g.paid = f.paid;
                w.book.add(g);
            }
            w.regretted.addAll(regretted);
            w.odds = odds.clone();
            w.drawn = drawn.clone();
            w.seed = seed;
            w.day = day;
            w.coins = coins;
            w.hits = hits;
            w.regrets = regrets;
            w.retractions = retractions;
            return w;
        }

        int sum() {
            return Arrays.stream(odds).sum();
        }

        int find(int village, int itsDay) {
            for (Forecast f : book) {
                if (f.village == village && f.day == itsDay) return book.indexOf(f);
            }
            return -1;
        }

        int refusal(int village, long itsDay) {
            if (itsDay - day < 1 || itsDay - day > 30) return 1;
            if (find(village, (int) itsDay) >= 0) return 2;
            return book.size() == 30 ? 3 : 0;
        }

        List<Forecast> page(int page) {
            List<Forecast> found = new ArrayList<>();
            for (int i = 0; i < book.size(); i++) {
                if (i / 4 == page) found.add(book.get(i));
            }
            return found;
        }

        int refund(int page) {
            return page(page).stream().mapToInt(f -> f.paid).sum();
        }

        int retract(int page) {
            int refund = refund(page);
            for (Forecast f : page(page)) {
                Village v = villages.get(f.village);
                v.trust = Math.max(0, v.trust - 5);
                retractions++;
            }
            book.removeAll(page(page));
            coins -= refund;
            return refund;
        }

        int draw() {
            seed = (29 * seed + 11) % 1024;
            int v = seed % sum();
            return v < odds[0] ? 0 : v < odds[0] + odds[1] ? 1 : 2;
        }

        void passDay() {
            day++;
            for (int n = 0; n < fairs.size(); n++) {
                Fair fair = fairs.get(n);
                if ((day + n) % fair.period != 0) continue;
                int left = fair.stock;
                for (Forecast f : book) {
                    if (f.village != fair.village || f.day <= day) continue;
                    Village v = villages.get(f.village);
                    int copies = (int) Math.floor((v.people - f.sold) * v.trust / 100.0);
                    copies = Math.min(left, Math.max(0, copies));
                    left -= copies;
                    f.sold += copies;
                    f.paid += copies * fair.price;
                    coins += copies * fair.price;
                }
            }
            for (int n = 0; n < villages.size(); n++) {
                int weather = draw();
                drawn[weather]++;
                int place = find(n, day);
                if (place < 0) continue;
                Forecast f = book.remove(place);
                Village v = villages.get(n);
                if (f.weather == weather) {
                    hits++;
                    v.trust = Math.min(100, v.trust + 5);
                } else {
                    regrets++;
                    regretted.add(10 * day + n);
                    if (regretted.size() > 10) regretted.remove(0);
                    coins -= weather == 2 ? f.paid + 10 : f.paid / 2;
                    v.trust = Math.max(0, v.trust - (weather == 2 ? 20 : 10));
                }
            }
            if (day % 12 == 0) endYear();
        }

        void endYear() {
            int most = 0;
            int least = 2;
            for (int w = 2; w >= 0; w--) if (drawn[w] == Arrays.stream(drawn).max().getAsInt()) most = w;
            for (int w = 0; w <= 2; w++) if (drawn[w] == Arrays.stream(drawn).min().getAsInt()) least = w;
            odds[most] = Math.min(20, odds[most] + 1);
            odds[least] = Math.max(0, odds[least] - 1);
            drawn = new int[3];
        }
    }

    private static Village village(String name, int people, int trust) {
        Village v = new Village();
        v.name = name;
        v.people = people;
        v.trust = trust;
        return v;
    }

    private static Fair fair(String name, int village, int period, int stock, int price) {
        Fair f = new Fair();
        f.name = name;
        f.village = village;
        f.period = period;
        f.stock = stock;
        f.price = price;
        return f;
    }

    private static Forecast forecast(int village, int day, int weather) {
        Forecast f = new Forecast();
        f.village = village;
        f.day = day;
        f.weather = weather;
        return f;
    }

    /** The first error of a text. */
    private static final class TextError extends Exception {
        private static final long serialVersionUID = 1L;
        final int code;
        final int position;

        TextError(int code, int position) {
            this.code = code;
            this.position = position;
        }
    }

    private static final class Reader {
        private static final Pattern TOKEN = Pattern.compile("[a-z]+|[0-9]+|[^ \n]");
        final List<String> tokens = new ArrayList<>();
        final List<Integer> places = new ArrayList<>();
        final World world = new World();
        int at = 0;

        Reader(String text) {
            Matcher matcher = TOKEN.matcher(text);
            while (matcher.find()) {
                tokens.add(matcher.group());
                places.add(matcher.start());
            }
            tokens.add("");
            places.add(text.length());
        }

        String peek() {
            return tokens.get(at);
        }

        void want(boolean right, int code) throws TextError {
            if (!right) throw new TextError(code, places.get(at));
        }

        void exactly(String token) throws TextError {
            want(peek().equals(token), 1);
            at++;
        }

        BigInteger number() throws TextError {
            want(peek().matches("[0-9]+"), 1);
            return new BigInteger(peek());
        }

        int number(int least, int most, boolean alsoRight) throws TextError {
            BigInteger n = number();
            boolean inRange = n.compareTo(BigInteger.valueOf(least)) >= 0 && n.compareTo(BigInteger.valueOf(most)) <= 0;
            want(inRange && (alsoRight || n.signum() != 0), 2);
            at++;
            return n.intValue();
        }

        int number(int least, int most) throws TextError {
            return number(least, most, true);
        }

        String newName() throws TextError {
            want(peek().matches("[a-z]+"), 1);
            want(peek().length() <= 4, 2);
            String name = peek();
            want(world.villages.stream().noneMatch(v -> v.name.equals(name)), 3);
            want(world.fairs.stream().noneMatch(f -> f.name.equals(name)), 3);
            at++;
            return name;
        }

        int villageName() throws TextError {
            want(peek().matches("[a-z]+"), 1);
            for (int i = 0; i < world.villages.size(); i++) {
                if (world.villages.get(i).name.equals(peek())) {
                    at++;
                    return i;
                }
            }
            want(false, 4);
            return -1;
        }

        World read() throws TextError {
            exactly("almanac");
            world.seed = number(0, 1023);
            world.odds[0] = number(0, 20);
            world.odds[1] = number(0, 20);
            world.odds[2] = number(0, 20, world.odds[0] + world.odds[1] > 0);
            exactly(";");
            while (!peek().isEmpty()) statement();
            return world;
        }

        void statement() throws TextError {
            switch (peek()) {
                case "village":
                    want(world.villages.size() < 6, 5);
                    at++;
                    Village v = village(newName(), number(1, 99), number(0, 100));
                    exactly(";");
                    world.villages.add(v);
                    break;
                case "fair":
                    want(world.fairs.size() < 6, 5);
                    at++;
                    Fair f = fair(newName(), villageName(), number(1, 12), number(1, 99), number(1, 20));
                    exactly(";");
                    world.fairs.add(f);
                    break;
                case "say":
                    at++;
                    int village = villageName();
                    int day = number(0, 9999);
                    int weather = List.of("sun", "rain", "storm").indexOf(peek());
                    want(weather >= 0, 1);
                    at++;
                    want(peek().equals(";"), 1);
                    want(world.refusal(village, day) == 0, 6);
                    at++;
                    world.book.add(forecast(village, day, weather));
                    break;
                case "retract":
                    at++;
                    BigInteger page = number();
                    want(page.compareTo(BigInteger.valueOf((world.book.size() + 3) / 4)) < 0, 4);
                    want(world.coins >= world.refund(page.intValue()), 6);
                    at++;
                    exactly(";");
                    world.retract(page.intValue());
                    break;
                case "pass":
                    at++;
                    int days = number(0, 200);
                    exactly(";");
                    for (int i = 0; i < days; i++) world.passDay();
                    break;
                default:
                    want(false, 1);
            }
        }
    }

    private World world;
    private final List<World> past = new ArrayList<>();
    private final World[] slots = new World[2];
    private String input = "";
    private String output = "";
    private int errorCode = 0;
    private int errorPosition = -1;

    public OfficeModel() {
        try {
            world = new Reader("almanac 7 9 6 5;village bree 40 50;village dale 20 80;fair mart bree 3 30 4;fair wake dale 2 9 7;"
                + "say bree 5 rain;say dale 3 sun;say bree 2 sun;say dale 9 storm;say bree 8 sun;pass 3;").read();
        } catch (TextError e) {
            throw new AssertionError(e);
        }
    }

    private void remember() {
        past.add(world.copy());
        if (past.size() > 8) past.remove(0);
    }

    private Village v(int village) {
        if (village < 0 || village >= world.villages.size()) throw new IndexOutOfBoundsException();
        return world.villages.get(village);
    }

    private Fair f(int fair) {
        if (fair < 0 || fair >= world.fairs.size()) throw new IndexOutOfBoundsException();
        return world.fairs.get(fair);
    }

    private Forecast b(int village, int day) {
        v(village);
        if (world.find(village, day) < 0) throw new NoSuchElementException();
        return world.book.get(world.find(village, day));
    }

    private List<Forecast> p(int page) {
        if (page < 0 || world.page(page).isEmpty()) throw new NoSuchElementException();
        return world.page(page);
    }

    private static void argument(boolean right) {
        if (!right) throw new IllegalArgumentException();
    }

    private static void state(boolean right) {
        if (!right) throw new IllegalStateException();
    }

    private static void index(boolean right) {
        if (!right) throw new IndexOutOfBoundsException();
    }

    public int appendInput(int a, int b, int c, int d, int e) {
        state(input.length() + 20 <= 600);
        for (int word : new int[] {a, b, c, d, e}) {
            for (int i = 3; i >= 0; i--) input += (char) ((word >> 8 * i) & 255);
        }
        return input.length();
    }

    public int truncateInput(int length) {
        argument(length >= 0 && length <= input.length());
        input = input.substring(0, length);
        return length;
    }

    public int load() {
        String text = input;
        input = "";
        try {
            World loaded = new Reader(text).read();
            remember();
            world = loaded;
            errorCode = 0;
            errorPosition = -1;
            return world.villages.size();
        } catch (TextError e) {
            errorCode = e.code;
            errorPosition = e.position;
            throw new IllegalArgumentException();
        }
    }

    public int errorCode() {
        return errorCode;
    }

    public int errorPosition() {
        return errorPosition;
    }

    public int day() {
        return world.day;
    }

    public int seed() {
        return world.seed;
    }

    public int coins() {
        return world.coins;
    }

    public int villageCount() {
        return world.villages.size();
    }

    public int fairCount() {
        return world.fairs.size();
    }

    public int findName() {
        for (Village v : world.villages) if (v.name.equals(input)) return world.villages.indexOf(v);
        for (Fair f : world.fairs) if (f.name.equals(input)) return 100 + world.fairs.indexOf(f);
        return -1;
    }

    public int peopleOf(int village) {
        return v(village).people;
    }

    public int trustOf(int village) {
        return v(village).trust;
    }

    public int forecastsFor(int village) {
        v(village);
        return (int) world.book.stream().filter(f -> f.village == village).count();
    }

    public int fairVillage(int fair) {
        return f(fair).village;
    }

    public int periodOf(int fair) {
        return f(fair).period;
    }

    public int stockOf(int fair) {
        return f(fair).stock;
    }

    public int priceOf(int fair) {
        return f(fair).price;
    }

    public int daysUntilFair(int fair) {
        int days = 1;
        while ((world.day + days + fair) % f(fair).period != 0) days++;
        return days;
    }

    public int oddsOf(int weather) {
        argument(weather >= 0 && weather <= 2);
        return world.odds[weather];
    }

    public double chanceOf(int weather) {
        return (double) oddsOf(weather) / (double) world.sum();
    }

    public int drawnThisYear(int weather) {
        argument(weather >= 0 && weather <= 2);
        return world.drawn[weather];
    }

    public int forecastCount() {
        return world.book.size();
    }

    public boolean hasForecast(int village, int day) {
        v(village);
        return world.find(village, day) >= 0;
    }

    public int weatherOf(int village, int day) {
        return b(village, day).weather;
    }

    public int soldOf(int village, int day) {
        return b(village, day).sold;
    }

    public int paidOf(int village, int day) {
        return b(village, day).paid;
    }

    public int pageOf(int village, int day) {
        b(village, day);
        return world.find(village, day) / 4;
    }

    public int forecastAt(int place) {
        if (place < 0 || place >= world.book.size()) throw new NoSuchElementException();
        return 10 * world.book.get(place).day + world.book.get(place).village;
    }

    public int pageCount() {
        return (world.book.size() + 3) / 4;
    }

    public int refundOf(int page) {
        p(page);
        return world.refund(page);
    }

    public boolean canRetract(int page) {
        return refundOf(page) <= world.coins;
    }

    public int printRefusal(int village, int day) {
        v(village);
        return world.refusal(village, day);
    }

    public int likeliestWeather() {
        return world.odds[0] >= world.odds[1] && world.odds[0] >= world.odds[2] ? 0 : world.odds[1] >= world.odds[2] ? 1 : 2;
    }

    public int tomorrowIn(int village) {
        v(village);
        World later = world.copy();
        int weather = -1;
        for (int i = 0; i <= village; i++) weather = later.draw();
        return weather;
    }

    public int regretCount() {
        return world.regretted.size();
    }

    public int regretAt(int index) {
        index(index >= 0 && index < world.regretted.size());
        return world.regretted.get(index);
    }

    public int hits() {
        return world.hits;
    }

    public int regrets() {
        return world.regrets;
    }

    public int retractions() {
        return world.retractions;
    }

    private World after(int days) {
        argument(days >= 0 && days <= 200);
        World later = world.copy();
        for (int i = 0; i < days; i++) later.passDay();
        return later;
    }

    public int coinsAfter(int days) {
        return after(days).coins;
    }

    public int trustAfter(int village, int days) {
        v(village);
        return after(days).villages.get(village).trust;
    }

    public int daysUntilEmpty() {
        World later = world.copy();
        int days = 0;
        while (!later.book.isEmpty()) {
            later.passDay();
            days++;
        }
        return days;
    }

    public int bestSeller() {
        int best = world.book.stream().mapToInt(f -> f.sold).max().orElse(-1);
        for (Forecast f : world.book) if (f.sold == best) return 10 * f.day + f.village;
        return -1;
    }

    public int copyDifference() {
        return 0;
    }

    public int coinDifference() {
        return 0;
    }

    public int bookErrors() {
        return 0;
    }

    public float hitShare() {
        return world.hits + world.regrets == 0 ? 0.0f : (float) world.hits / (float) (world.hits + world.regrets);
    }

    public double averageTrust() {
        if (world.villages.isEmpty()) return 0.0;
        return (double) world.villages.stream().mapToInt(v -> v.trust).sum() / (double) world.villages.size();
    }

    public int print(int village, int day, int weather) {
        v(village);
        argument(weather >= 0 && weather <= 2);
        state(world.refusal(village, day) == 0);
        remember();
        world.book.add(forecast(village, day, weather));
        return pageOf(village, day);
    }

    public int retract(int page) {
        state(canRetract(page));
        remember();
        return world.retract(page);
    }

    public int setTrust(int village, int trust) {
        v(village);
        argument(trust >= 0 && trust <= 100);
        remember();
        int former = v(village).trust;
        v(village).trust = trust;
        return former;
    }

    public int setPeople(int village, int people) {
        v(village);
        argument(people >= 1 && people <= 99);
        remember();
        int former = v(village).people;
        v(village).people = people;
        return former;
    }

    public int setOdds(int weather, int odds) {
        argument(weather >= 0 && weather <= 2 && odds >= 0 && odds <= 20);
        int former = world.odds[weather];
        state(world.sum() - former + odds > 0);
        remember();
        world.odds[weather] = odds;
        return former;
    }

    public int pass(int days) {
        argument(days >= 1 && days <= 200);
        remember();
        int before = world.regrets;
        world = after(days);
        return world.regrets - before;
    }

    public int writePage(int page) {
        List<String> words = new ArrayList<>();
        for (Forecast f : p(page)) words.add(v(f.village).name + f.day + "srt".charAt(f.weather));
        output = String.join(" ", words);
        return output.length();
    }

    public int outputByte(int position) {
        if (position < 0 || position >= output.length()) throw new NoSuchElementException();
        return output.charAt(position);
    }

    public int save(int slot) {
        index(slot == 0 || slot == 1);
        slots[slot] = world.copy();
        return world.day;
    }

    public int restore(int slot) {
        index(slot == 0 || slot == 1);
        state(slots[slot] != null);
        remember();
        world = slots[slot].copy();
        return world.day;
    }

    public int undo() {
        state(!past.isEmpty());
        world = past.remove(past.size() - 1);
        return past.size();
    }
}
