import java.nio.charset.StandardCharsets;
import java.util.Arrays;

/** What the tests share: they feed texts, compare answers and count what is wrong. */
final class Check {
    interface Call {
        void run() throws Exception;
    }

    private static int wrong = 0;
    private static String sentence = "";

    private Check() {
    }

    /** Tells the sentence of the document that the following answers rest on. */
    static void about(String words) {
        sentence = words;
    }

    static void due(String call, long got, long want) {
        if (got != want) report(call + " answered " + got + ", due is " + want);
    }

    static void due(String call, boolean got, boolean want) {
        if (got != want) report(call + " answered " + got + ", due is " + want);
    }

    static void dueDouble(String call, double got, double want) {
        if (got != want) report(call + " answered " + got + ", due is " + want);
    }

    static void dueText(String call, String got, String want) {
        if (!got.equals(want)) report(call + " answered '" + got + "', due is '" + want + "'");
    }

    static void dueThrow(String call, Class<? extends Exception> want, Call run) {
        try {
            run.run();
            report(call + " threw nothing, due is " + want.getSimpleName());
        } catch (Exception e) {
            if (e.getClass() != want) report(call + " threw " + e + ", due is " + want.getSimpleName());
        }
    }

    static void report(String line) {
        wrong++;
        System.out.println(sentence.isEmpty() ? line : line + " [" + sentence + "]");
    }

    /** Ends the test: with exit code 1 if an answer was wrong. */
    static void end() {
        if (wrong != 0) {
            System.out.println(wrong + " answers are wrong");
            System.exit(1);
        }
    }

    /** Appends a text to an input buffer that is empty. */
    static void feed(AlmanacOffice office, String text) {
        feed(office, text.getBytes(StandardCharsets.ISO_8859_1));
    }

    static void feed(AlmanacOffice office, byte[] text) {
        byte[] padded = Arrays.copyOf(text, (text.length + 19) / 20 * 20);
        for (int i = 0; i < padded.length; i += 20) {
            office.appendInput(four(padded, i), four(padded, i + 4), four(padded, i + 8), four(padded, i + 12), four(padded, i + 16));
        }
        if (padded.length > 0) office.truncateInput(text.length);
    }

    private static int four(byte[] row, int at) {
        return (row[at] & 255) << 24 | (row[at + 1] & 255) << 16 | (row[at + 2] & 255) << 8 | row[at + 3] & 255;
    }

    static AlmanacOffice loaded(String text) {
        AlmanacOffice office = new AlmanacOffice();
        load(office, text);
        return office;
    }

    static void load(AlmanacOffice office, String text) {
        feed(office, text);
        try {
            office.load();
        } catch (IllegalArgumentException e) {
            report("the text '" + text + "' has error " + office.errorCode() + " at " + office.errorPosition());
        }
    }

    /** Loads a text that has an error; a caret stands before the token that has it. */
    static void error(int code, String marked) {
        error(code, marked.replace("^", ""), marked.indexOf('^'));
    }

    static void error(int code, String text, int position) {
        AlmanacOffice x = new AlmanacOffice();
        String before = stateOf(x);
        feed(x, text);
        dueThrow("load of '" + text + "'", IllegalArgumentException.class, () -> x.load());
        due("errorCode of '" + text + "'", x.errorCode(), code);
        due("errorPosition of '" + text + "'", x.errorPosition(), position);
        dueText("state after '" + text + "'", stateOf(x), before);
        dueThrow("input after '" + text + "'", IllegalArgumentException.class, () -> x.truncateInput(1));
        dueThrow("undo after '" + text + "'", IllegalStateException.class, () -> x.undo());
    }

    /** Loads a text that has no error, and gives the office back. */
    static AlmanacOffice right(String text, int villages) {
        AlmanacOffice x = new AlmanacOffice();
        feed(x, text);
        try {
            due("load of '" + text + "'", x.load(), villages);
        } catch (IllegalArgumentException e) {
            report("load of '" + text + "' threw, due is " + villages);
        }
        due("errorCode of '" + text + "'", x.errorCode(), 0);
        due("errorPosition of '" + text + "'", x.errorPosition(), -1);
        dueThrow("input after '" + text + "'", IllegalArgumentException.class, () -> x.truncateInput(1));
        return x;
    }

    /** All of the state that the questions tell, as one text. */
    static String stateOf(AlmanacOffice office) {
        StringBuilder all = new StringBuilder();
        all.append(office.day()).append(' ').append(office.seed()).append(' ').append(office.coins());
        all.append(' ').append(office.hits()).append(' ').append(office.regrets()).append(' ').append(office.retractions());
        for (int weather = 0; weather < 3; weather++) {
            all.append(" w").append(office.oddsOf(weather)).append(',').append(office.drawnThisYear(weather));
        }
        for (int village = 0; village < office.villageCount(); village++) {
            all.append(" v").append(office.peopleOf(village)).append(',').append(office.trustOf(village));
        }
        for (int fair = 0; fair < office.fairCount(); fair++) {
            all.append(" f").append(office.fairVillage(fair)).append(',').append(office.periodOf(fair));
            all.append(',').append(office.stockOf(fair)).append(',').append(office.priceOf(fair));
        }
        for (int place = 0; place < office.forecastCount(); place++) {
            int label = office.forecastAt(place);
            all.append(" b").append(label).append(',').append(office.weatherOf(label % 10, label / 10));
            all.append(',').append(office.soldOf(label % 10, label / 10)).append(',').append(office.paidOf(label % 10, label / 10));
        }
        for (int i = 0; i < office.regretCount(); i++) all.append(" r").append(office.regretAt(i));
        all.append(' ').append(office.copyDifference()).append(office.coinDifference()).append(office.bookErrors());
        return all.toString();
    }

    /** Some of the state, for offices that have many calls: there may be 512. */
    static String briefOf(AlmanacOffice office) {
        StringBuilder some = new StringBuilder();
        some.append(office.day()).append(' ').append(office.seed()).append(' ').append(office.coins()).append(' ').append(office.forecastCount());
        for (int village = 0; village < office.villageCount(); village++) {
            some.append(" v").append(office.peopleOf(village)).append(',').append(office.trustOf(village));
        }
        return some.toString();
    }

    static String pageText(AlmanacOffice office, int page) {
        int length = office.writePage(page);
        StringBuilder text = new StringBuilder();
        for (int i = 0; i < length; i++) text.append((char) office.outputByte(i));
        return text.toString();
    }
}
