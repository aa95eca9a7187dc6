import java.util.List;

/** Section 4 of the terms and promises 2 to 6 and 12, sentence by sentence: the limits of the input, its tokens and statements. */
final class TextEdgesTest {
    private static final String HEAD = "almanac 0 1 0 0;";
    private static final String TWO = HEAD + "village a 50 50;village bb 9 9;fair f a 1 99 20;";
    private static final int[] EXTREMES = {Integer.MIN_VALUE, Integer.MIN_VALUE + 1, -1, Integer.MAX_VALUE};

    public static void main(String[] args) {
        appending();
        truncating();
        fullBuffer();
        words();
        numbers();
        everyByte();
        blanks();
        names();
        almanac();
        village();
        fair();
        say();
        retract();
        pass();
        inOrder();
        firstError();
        severalErrors();
        earlyEnds();
        loading();
        errorOfTheLatestLoad();
        findingNames();
        Check.end();
    }

    private static String repeat(String part, int times) {
        return part.repeat(times);
    }

    /** A text of so many bytes, with spaces between its head and its tail. */
    private static String filled(String head, String tail, int length) {
        return head + repeat(" ", length - head.length() - tail.length()) + tail;
    }

    private static void appending() {
        Check.about("Appends 20 bytes: the four bytes of each argument, the most significant byte first.");
        AlmanacOffice x = new AlmanacOffice();
        Check.due("first append", x.appendInput(0x616c6d61, 0x6e616320, 0x33203120, 0x3220333b, 0x70617373), 20);
        Check.due("second append", x.appendInput(0x3030323b, 0x76696c6c, 0x61676520, 0x61203120, 0x313bffff), 40);
        Check.due("without the two bytes 255", x.truncateInput(38), 38);
        Check.due("load", x.load(), 1);
        Check.due("day", x.day(), 2);
        Check.due("odds", x.oddsOf(0) * 100 + x.oddsOf(1) * 10 + x.oddsOf(2), 123);
        AlmanacOffice y = new AlmanacOffice();
        y.appendInput(0x616c6d61, 0x6e616320, 0x33203120, 0x3220333b, 0xffffffff);
        Check.dueThrow("load with bytes 255", IllegalArgumentException.class, () -> y.load());
        Check.due("position of the first byte 255", y.errorPosition(), 16);

        Check.about("appendInput throws IllegalStateException if the new length would be greater than 600.");
        AlmanacOffice z = new AlmanacOffice();
        for (int i = 1; i <= 30; i++) Check.due("append " + i, z.appendInput(EXTREMES[i % 4], i, -i, 0, 1), 20 * i);
        for (int length = 600; length >= 560; length--) {
            int kept = length;
            z.truncateInput(length);
            if (length > 580) {
                Check.dueThrow("append to " + length, IllegalStateException.class, () -> z.appendInput(1, 2, 3, 4, 5));
                Check.dueThrow("length after a refused append to " + length, IllegalArgumentException.class, () -> z.truncateInput(kept + 1));
                Check.due("length after a refused append to " + length, z.truncateInput(length), length);
            } else {
                Check.due("append to " + length, z.appendInput(1, 2, 3, 4, 5), length + 20);
            }
        }
    }

    private static void truncating() {
        Check.about("truncateInput: the new length, 0 to the current length; IllegalArgumentException if it is out of range.");
        AlmanacOffice x = new AlmanacOffice();
        Check.due("truncateInput(0) of an empty buffer", x.truncateInput(0), 0);
        Check.dueThrow("truncateInput(1) of an empty buffer", IllegalArgumentException.class, () -> x.truncateInput(1));
        for (int length : EXTREMES) {
            Check.dueThrow("truncateInput(" + length + ") of an empty buffer", IllegalArgumentException.class, () -> x.truncateInput(length));
        }
        Check.feed(x, TWO);
        int full = TWO.length();
        Check.due("truncateInput(length)", x.truncateInput(full), full);
        for (int length : new int[] {full + 1, full + 20, 600, 601, EXTREMES[0], EXTREMES[1], -1, EXTREMES[3]}) {
            Check.dueThrow("truncateInput(" + length + ")", IllegalArgumentException.class, () -> x.truncateInput(length));
        }
        Check.due("a refused truncateInput keeps the length", x.truncateInput(full), full);
        Check.due("truncateInput(length - 1)", x.truncateInput(full - 1), full - 1);
        Check.dueThrow("the former length", IllegalArgumentException.class, () -> x.truncateInput(full));
        Check.due("append of what was cut", x.appendInput(0x3b000000, 0, 0, 0, 0), full + 19);
        x.truncateInput(full);
        Check.due("the bytes that were left stay", x.load(), 2);
        Check.feed(x, TWO);
        Check.due("truncateInput(1)", x.truncateInput(1), 1);
        Check.due("truncateInput(0)", x.truncateInput(0), 0);
        Check.dueThrow("truncateInput(1) of an emptied buffer", IllegalArgumentException.class, () -> x.truncateInput(1));
    }

    private static void fullBuffer() {
        Check.about("The input buffer holds at most 600 bytes.");
        Check.right(filled(HEAD, "village a 1 1;", 600), 1);
        Check.right(filled(HEAD, "", 600), 0);
        Check.right(filled("", HEAD, 600), 0);
        Check.error(1, filled(HEAD, "^;", 601));
        Check.error(1, filled(HEAD, "^x", 601));
        Check.error(1, filled(HEAD, "village^", 601));
        Check.error(1, filled("almanac 0 1 0 0", "^", 601));
        Check.error(1, repeat(" ", 600) + "^");
        Check.error(1, "^" + repeat("x", 600));
        Check.error(1, "^" + repeat("9", 600));
        Check.error(1, "^" + repeat(";", 600));
        Check.error(2, HEAD + "village ^" + repeat("a", 576));
        AlmanacOffice x = Check.right(HEAD + repeat("pass0;", 97), 0);
        Check.due("day after 97 statements", x.day(), 0);
        AlmanacOffice y = Check.right(HEAD + repeat("pass200;", 73), 0);
        Check.due("day after 73 statements", y.day(), 14600);
    }

    private static void words() {
        Check.about("A word is a maximal run of the letters a to z.");
        Check.right(HEAD + "village az 1 1;village za 1 1;", 2);
        Check.error(1, HEAD + "village a^`z 1 1;");
        Check.error(1, HEAD + "village z^{ 1 1;");
        Check.error(1, HEAD + "village z^Z 1 1;");
        Check.error(1, HEAD + "village ^A 1 1;");
        Check.error(1, HEAD + "^villagea 1 1;");
        Check.error(1, HEAD + "^villag a 1 1;");
        Check.error(1, HEAD + "^wallage a 1 1;");
        Check.error(1, HEAD + "^villagf a 1 1;");
        Check.error(1, "^almana 0 1 0 0;");
        Check.error(1, "^almanaca 0 1 0 0;");
        Check.error(1, "^Almanac 0 1 0 0;");
        Check.error(1, HEAD + "^fairs f a 1 1 1;");
        Check.error(1, HEAD + "^sa a 1 sun;");
        Check.error(1, HEAD + "^says a 1 sun;");
        Check.error(1, HEAD + "^retracts 0;");
        Check.error(1, HEAD + "^pas 1;");
        Check.error(1, TWO + "say a 1 ^su;");
        Check.error(1, TWO + "say a 1 ^suns;");
        Check.error(1, TWO + "say a 1 ^rai;");
        Check.error(1, TWO + "say a 1 ^rainy;");
        Check.error(1, TWO + "say a 1 ^stor;");
        Check.error(1, TWO + "say a 1 ^Sun;");
    }

    private static void numbers() {
        Check.about("A number is a maximal run of decimal digits of any length; leading zeros have no effect.");
        AlmanacOffice x = Check.right("almanac 000000000001023 0020 00 0000000000000000000000000000000000000000020;village a 0099 000100;pass 0000200;", 1);
        Check.due("people", x.peopleOf(0), 99);
        Check.due("trust", x.trustOf(0), 100);
        Check.due("day", x.day(), 200);
        AlmanacOffice y = Check.right("almanac " + repeat("0", 580) + "1023 1 0 0;", 0);
        Check.due("seed behind 580 zeros", y.seed(), 1023);
        AlmanacOffice z = Check.right(TWO + "say a " + repeat("0", 400) + "30 sun;retract 00000000000000;", 2);
        Check.due("forecast of day 30 is retracted", z.retractions(), 1);
        AlmanacOffice w = Check.right("almanac 0123 1 0 0;village a 45 67;pass 89;", 1);
        Check.due("digits 4 to 9", w.peopleOf(0) * 10000 + w.trustOf(0) * 100 + w.day(), 456789);
        Check.error(2, "almanac ^" + repeat("9", 580) + " 1 0 0;");
        Check.error(1, "almanac " + repeat("0", 592) + "^");
        Check.error(2, "almanac ^1" + repeat("0", 591));
        // Numbers that would be small again if they wrapped around in 16, 31, 32, 33, 63, 64 or 128 bits.
        String[] wraps = {"65536", "65537", "2147483648", "2147483649", "4294967296", "4294967297", "8589934593", "9223372036854775808",
            "9223372036854775809", "18446744073709551616", "18446744073709551617", "340282366920938463463374607431768211457"};
        for (String wrap : wraps) {
            Check.error(2, "almanac ^" + wrap + " 1 0 0;");
            Check.error(2, "almanac 0 ^" + wrap + " 0 0;");
            Check.error(2, HEAD + "village a ^" + wrap + " 1;");
            Check.error(2, HEAD + "village a 1 ^" + wrap + ";");
            Check.error(2, HEAD + "pass ^" + wrap + ";");
            Check.error(2, TWO + "fair g a ^" + wrap + " 1 1;");
            Check.error(2, TWO + "say a ^" + wrap + " sun;");
            Check.error(4, TWO + "say a 1 sun;retract ^" + wrap + ";");
        }
    }

    /** Each byte stands behind a semicolon, before one, and between a name and a number. */
    private static void everyByte() {
        Check.about("Every other byte, except the space (32) and the line feed (10), is a token of its own.");
        for (int b = 0; b < 256; b++) {
            String sign = String.valueOf((char) b);
            boolean blank = b == 32 || b == 10;
            boolean digit = b >= 48 && b <= 57;
            boolean letter = b >= 97 && b <= 122;
            if (blank) Check.right(HEAD + sign, 0);
            else Check.error(1, HEAD + sign, 16);
            if (blank || digit) Check.right("almanac 0 1 0 0" + sign + ";", 0);
            else if (b == ';') Check.error(1, "almanac 0 1 0 0;^;");
            else Check.error(1, "almanac 0 1 0 0" + sign + ";", 15);
            if (blank || digit || letter) Check.right(HEAD + "village a" + sign + "1 1;", 1);
            else Check.error(1, HEAD + "village a" + sign + "1 1;", 25);
        }
        Check.error(1, HEAD + "pass 1^--;");
        Check.error(1, HEAD + "pass ^+1;");
        Check.error(1, HEAD + "pass 1^.0;");
        Check.error(1, HEAD + "^\r\npass 1;");
        Check.error(1, HEAD + "pass^\t1;");
    }

    private static void blanks() {
        Check.about("Spaces and line feeds only separate tokens.");
        Check.right(" \n \nalmanac\n0\n1 \n 0\n0\n;\n\nvillage\na\n1\n1\n;\n", 1);
        Check.right("almanac0 1 0 0;village a1 1;fair f a1 1 1;say a1sun;retract0;pass1;", 1);
        Check.error(1, "^alma nac 0 1 0 0;");
        Check.error(1, HEAD + "pass 1 ^0;");
        Check.error(1, HEAD + "village a ^b 1 1;");
    }

    private static void names() {
        Check.about("Any word of 1 to 4 letters can be a name.");
        AlmanacOffice x = Check.right(HEAD + "village fair 1 1;village say 2 1;village pass 3 1;village sun 4 1;village rain 5 1;village z 6 1;"
            + "fair zz pass 1 1 1;fair zzz rain 1 1 1;fair zzzz z 1 1 1;say fair 1 sun;say say 2 rain;say pass 3 storm;say sun 4 sun;say rain 5 rain;", 6);
        Check.due("forecastCount", x.forecastCount(), 5);
        Check.dueText("page 0", Check.pageText(x, 0), "fair1s say2r pass3t sun4s");
        AlmanacOffice y = Check.right(HEAD + "village v 1 1;fair fair v 1 1 1;fair say v 1 1 1;fair pass v 1 1 1;fair sun v 1 1 1;fair rain v 1 1 1;fair a v 1 1 1;"
            + "village b 1 1;", 2);
        Check.due("fairCount", y.fairCount(), 6);
        // The word fair is a name here, so that it does not matter that there are 6 fairs.
        Check.right(HEAD + "village v 1 1;fair a v 1 1 1;fair b v 1 1 1;fair c v 1 1 1;fair d v 1 1 1;fair e v 1 1 1;fair f v 1 1 1;"
            + "village fair 1 1;say fair 1 sun;", 2);

        Check.about("2: a new name of more than 4 letters");
        Check.right(HEAD + "village abcd 1 1;", 1);
        Check.error(2, HEAD + "village ^abcde 1 1;");
        Check.error(2, HEAD + "village ^storm 1 1;");
        Check.error(2, HEAD + "village abcd 1 1;village ^abcda 1 1;");
        Check.error(2, HEAD + "village ^" + repeat("a", 500) + " 1 1;");
        Check.right(TWO + "fair abcd a 1 1 1;", 2);
        Check.error(2, TWO + "fair ^abcde a 1 1 1;");
        Check.error(2, TWO + "fair ^almanac a 1 1 1;");

        Check.about("3: a new name that a village or a fair has already (no two villages or fairs have the same name)");
        Check.error(3, TWO + "village ^a 1 1;");
        Check.error(3, TWO + "village ^bb 1 1;");
        Check.error(3, TWO + "village ^f 1 1;");
        Check.error(3, TWO + "fair ^a a 1 1 1;");
        Check.error(3, TWO + "fair ^bb a 1 1 1;");
        Check.error(3, TWO + "fair ^f a 1 1 1;");
        Check.error(3, HEAD + "village abcd 1 1;village ^abcd 1 1;");
        Check.right(HEAD + "village abcd 1 1;village abc 1 1;village bcd 1 1;village abce 1 1;village bbcd 1 1;village d 1 1;", 6);
        Check.right(TWO + "village b 1 1;village aa 1 1;fair ff b 1 1 1;fair bbb aa 1 1 1;", 4);
        // The names of the former state are free again.
        Check.load(x, TWO);
        Check.load(x, TWO);
    }

    private static void almanac() {
        Check.about("almanac SEED SUN RAIN STORM ; this is the first statement, and it occurs only there");
        Check.error(1, HEAD + "^almanac 0 1 0 0;");
        Check.error(1, TWO + "^almanac 0 1 0 0;");
        Check.error(1, "^village a 1 1;" + HEAD);
        Check.error(1, "^fair f a 1 1 1;");
        Check.error(1, "^say a 1 sun;");
        Check.error(1, "^retract 0;");
        Check.error(1, "^pass 1;");
        Check.error(1, "^;" + HEAD);
        Check.error(1, "^");
        Check.error(1, " \n^");

        Check.about("The office has a seed (0 to 1023).");
        Check.due("seed 0", Check.right("almanac 0 1 0 0;", 0).seed(), 0);
        Check.due("seed 1023", Check.right("almanac 1023 1 0 0;", 0).seed(), 1023);
        Check.error(2, "almanac ^1024 1 0 0;");
        Check.error(1, "almanac ^-1 1 0 0;");
        Check.error(1, "almanac ^x 1 0 0;");

        Check.about("The odds of each weather are a number from 0 to 20; their sum is at least 1.");
        AlmanacOffice x = Check.right("almanac 0 20 20 20;", 0);
        Check.due("odds of 20", x.oddsOf(0) + x.oddsOf(1) + x.oddsOf(2), 60);
        Check.due("sun alone", Check.right("almanac 0 1 0 0;", 0).oddsOf(0), 1);
        Check.due("rain alone", Check.right("almanac 0 0 1 0;", 0).oddsOf(1), 1);
        Check.due("storm alone", Check.right("almanac 0 0 0 1;", 0).oddsOf(2), 1);
        Check.error(2, "almanac 0 ^21 0 0;");
        Check.error(2, "almanac 0 1 ^21 0;");
        Check.error(2, "almanac 0 1 0 ^21;");
        Check.error(1, "almanac 0 1 0 ^-1;");

        Check.about("2: also STORM if all odds are 0");
        Check.error(2, "almanac 0 0 0 ^0;");
        Check.error(2, "almanac 0 0 0 ^000");
        Check.error(2, "almanac 0 0 0 ^0x");
        Check.error(1, "almanac 0 0 0 ^;");
        Check.error(1, "almanac 0 1 0 0^");
        Check.error(1, "almanac 0 1 0 0 ^0;");
    }

    private static void village() {
        Check.about("A village has a name of 1 to 4 letters, a number of people (1 to 99) and a trust (0 to 100 percent).");
        AlmanacOffice x = Check.right(HEAD + "village a 1 0;village b 99 100;", 2);
        Check.due("peopleOf(0)", x.peopleOf(0), 1);
        Check.due("trustOf(0)", x.trustOf(0), 0);
        Check.due("peopleOf(1)", x.peopleOf(1), 99);
        Check.due("trustOf(1)", x.trustOf(1), 100);
        Check.error(2, HEAD + "village a ^0 1;");
        Check.error(2, HEAD + "village a ^100 1;");
        Check.error(2, HEAD + "village a 1 ^101;");
        Check.error(1, HEAD + "village a ^-1 1;");
        Check.error(1, HEAD + "village a 1 ^-1;");
        Check.error(1, HEAD + "village ^1 1 1;");
        Check.error(1, HEAD + "village ^;");
        Check.error(1, HEAD + "village a ^x 1;");
        Check.error(1, HEAD + "village a 1 ^x;");
        Check.error(1, HEAD + "village a 1 1 ^1;");
        Check.error(1, HEAD + "village a 1 1 ^village");

        Check.about("5: the word village when there are 6 villages");
        String six = HEAD + "village a 1 1;village b 2 1;village c 3 1;village d 4 1;village e 5 1;village f 6 1;";
        AlmanacOffice y = Check.right(six, 6);
        for (int i = 0; i < 6; i++) Check.due("peopleOf(" + i + ")", y.peopleOf(i), i + 1);
        Check.error(5, six + "^village g 1 1;");
        Check.error(5, six + "^village");
        Check.error(5, six + "^village a 0 101");
        Check.error(1, six + "^villagf");
        Check.error(4, six + "say ^village 1 sun;");
        Check.error(2, six + "fair ^village a 1 1 1;");
    }

    private static void fair() {
        Check.about("A fair has a name of 1 to 4 letters, a village, a period (1 to 12 days), a stock (1 to 99 copies) and a price (1 to 20 coins).");
        AlmanacOffice x = Check.right(TWO + "fair g bb 1 1 1;fair hhhh a 12 99 20;", 2);
        Check.due("fair 1", x.fairVillage(1) * 1000000 + x.periodOf(1) * 10000 + x.stockOf(1) * 100 + x.priceOf(1), 1010101);
        Check.due("fair 2", x.fairVillage(2) * 1000000 + x.periodOf(2) * 10000 + x.stockOf(2) * 100 + x.priceOf(2), 129920);
        Check.error(2, TWO + "fair g a ^0 1 1;");
        Check.error(2, TWO + "fair g a ^13 1 1;");
        Check.error(2, TWO + "fair g a 1 ^0 1;");
        Check.error(2, TWO + "fair g a 1 ^100 1;");
        Check.error(2, TWO + "fair g a 1 1 ^0;");
        Check.error(2, TWO + "fair g a 1 1 ^21;");
        Check.error(1, TWO + "fair g a ^-1 1 1;");
        Check.error(1, TWO + "fair g a 1 ^x 1;");
        Check.error(1, TWO + "fair g a 1 1 ^;");
        Check.error(1, TWO + "fair g a 1 1 1 ^1;");
        Check.error(1, TWO + "fair ^7 a 1 1 1;");
        Check.error(1, TWO + "fair g ^7 1 1 1;");

        Check.about("4: a VILLAGE that does not exist");
        Check.error(4, TWO + "fair g ^c 1 1 1;");
        Check.error(4, TWO + "fair g ^b 1 1 1;");
        Check.error(4, TWO + "fair g ^bbb 1 1 1;");
        Check.error(4, TWO + "fair g ^f 1 1 1;");
        Check.error(4, TWO + "fair g ^g 1 1 1;");
        Check.error(4, TWO + "fair g ^aaaaa 1 1 1;");
        Check.error(4, TWO + "fair g ^z 1 1 1;village z 1 1;");
        Check.error(4, HEAD + "fair g ^g 1 1 1;");

        Check.about("5: fair when there are 6 fairs");
        String six = HEAD + "village v 1 1;village w 1 1;fair a v 1 1 1;fair b v 2 1 1;fair c v 3 1 1;fair d v 4 1 1;fair e v 5 1 1;fair f w 6 1 1;";
        AlmanacOffice y = Check.right(six, 2);
        Check.due("fairCount", y.fairCount(), 6);
        for (int i = 0; i < 6; i++) Check.due("periodOf(" + i + ")", y.periodOf(i), i + 1);
        Check.error(5, six + "^fair g v 1 1 1;");
        Check.error(5, six + "^fair");
        Check.error(5, six + "^fair a a 0 0 0");
        Check.error(1, six + "^fairs");
        Check.right(six + "village g 1 1;village h 1 1;village i 1 1;village j 1 1;", 6);
        Check.error(5, six + "village g 1 1;village h 1 1;village i 1 1;village j 1 1;^village k 1 1;");
    }

    private static void say() {
        Check.about("say VILLAGE DAY sun ; prints a forecast; also with rain or storm. DAY is 0 to 9999.");
        AlmanacOffice x = Check.right(TWO + "say a 1 sun;say a 2 rain;say bb 30 storm;", 2);
        Check.due("sun", x.weatherOf(0, 1), 0);
        Check.due("rain", x.weatherOf(0, 2), 1);
        Check.due("storm", x.weatherOf(1, 30), 2);
        Check.error(2, TWO + "say a ^10000 sun;");
        Check.error(1, TWO + "say a 9999 ^x");
        Check.error(1, TWO + "say a 0 ^x");
        Check.error(1, TWO + "say a ^-1 sun;");
        Check.error(1, TWO + "say a ^sun;");
        Check.error(1, TWO + "say a 1 ^;");
        Check.error(1, TWO + "say a 1 ^0;");
        Check.error(1, TWO + "say a 1 sun ^rain;");
        Check.error(1, TWO + "say ^1 1 sun;");
        Check.error(4, TWO + "say ^c 1 sun;");
        Check.error(4, TWO + "say ^f 1 sun;");
        Check.error(4, TWO + "say ^aaaaa 1 sun;");
        Check.error(4, HEAD + "say ^sun 1 sun;");
        // 49 times 200 days and 169 more: day 9999 is the last of the next 30 days, and a text can name no later one.
        String late = "almanac 0 1 0 0;village a 1 1;" + repeat("pass200;", 49);
        AlmanacOffice y = Check.right(late + "pass169;say a 9999 sun;", 1);
        Check.due("day 9999", y.hasForecast(0, 9999), true);
        Check.error(6, late + "pass168;say a 9999 sun^;");
        Check.error(2, late + "pass170;say a ^10000 sun;");
        Check.error(6, late + "pass199;say a 9999 sun^;");
        Check.right(late + "pass198;say a 9999 sun;", 1);

        Check.about("6: the semicolon of a say statement that is refused");
        Check.error(6, TWO + "say a 0 sun^;");
        Check.right(TWO + "say a 1 sun;", 2);
        Check.right(TWO + "say a 30 sun;", 2);
        Check.error(6, TWO + "say a 31 sun ^;");
        Check.error(6, TWO + "say a 9999 sun^;");
        Check.error(6, TWO + "pass 5;say a 5 sun^;");
        Check.right(TWO + "pass 5;say a 6 sun;say a 35 sun;", 2);
        Check.error(6, TWO + "pass 5;say a 36 sun^;");
        Check.error(6, TWO + "say a 7 sun;say a 7 sun^;");
        Check.right(TWO + "say a 7 sun;say bb 7 sun;", 2);
        Check.error(1, TWO + "say a 0 sun^");
        Check.error(1, TWO + "say a 0 sun ^say");
        Check.error(1, TWO + "say a 0 sun^,;");
        Check.right(TWO + "say a 7 sun;pass 7;say a 8 sun;", 2);
        StringBuilder full = new StringBuilder("almanac 0 1 0 0;village a 1 1;village b 1 1;");
        for (int day = 1; day <= 30; day++) full.append("say a ").append(day).append(" sun;");
        AlmanacOffice z = Check.right(full.toString(), 2);
        Check.due("30 forecasts of a text", z.forecastCount(), 30);
        Check.error(6, full + "say b 1 sun^;");
        Check.right(full + "pass 1;say b 2 sun;", 2);
        Check.right(full + "retract 7;say b 2 sun;say b 1 sun;", 2);
        Check.error(6, full + "retract 7;say b 2 sun;say b 1 sun;say b 3 sun^;");
    }

    private static void retract() {
        Check.about("4: a PAGE that does not exist");
        Check.error(4, TWO + "retract ^0;");
        Check.error(4, TWO + "retract ^0");
        Check.right(TWO + "say a 1 sun;retract 0;", 2);
        Check.error(4, TWO + "say a 1 sun;retract ^1;");
        String four = TWO + "say a 1 sun;say a 2 sun;say a 3 sun;say a 4 sun;";
        Check.error(4, four + "retract ^1;");
        Check.right(four + "retract 0;", 2);
        Check.right(four + "say a 5 sun;retract 1;retract 0;", 2);
        Check.error(4, four + "say a 5 sun;retract ^2;");
        Check.error(4, four + "say a 5 sun;retract 1;retract ^1;");
        Check.error(1, four + "retract ^-1;");
        Check.error(1, four + "retract ^a;");
        Check.error(1, four + "retract ^;");
        Check.error(1, four + "retract 0 ^0;");
        Check.error(1, four + "retract 0^");
        Check.error(4, four + "retract ^1x");

        Check.about("6: the PAGE of a retract statement that is refused");
        String storm = "almanac 0 0 0 1;village a 1 1;";
        Check.error(6, storm + "say a 1 sun;say a 9 sun;pass 1;retract ^0;");
        Check.error(6, storm + "say a 1 sun;say a 9 sun;pass 1;retract ^00000 0");
        Check.right(storm + "say a 1 storm;say a 9 sun;pass 1;retract 0;", 1);
        Check.error(4, storm + "say a 1 sun;say a 9 sun;pass 1;retract ^1;");
        Check.error(4, storm + "say a 1 sun;pass 1;retract ^0;");
    }

    private static void pass() {
        Check.about("pass DAYS ; days pass, 0 to 200");
        Check.due("pass 0", Check.right(HEAD + "pass 0;", 0).day(), 0);
        Check.due("pass 1", Check.right(HEAD + "pass 1;", 0).day(), 1);
        Check.due("pass 200", Check.right(HEAD + "pass 200;", 0).day(), 200);
        Check.error(2, HEAD + "pass ^201;");
        Check.error(1, HEAD + "pass ^-1;");
        Check.error(1, HEAD + "pass ^;");
        Check.error(1, HEAD + "pass ^a;");
        Check.error(1, HEAD + "pass 1^");
        Check.error(1, HEAD + "pass 1 ^pass");
        AlmanacOffice x = Check.right(TWO + "say a 1 sun;pass 0;", 2);
        Check.due("pass 0 draws nothing", x.seed(), 0);
        Check.due("pass 0 sells nothing", x.soldOf(0, 1) + x.coins(), 0);
    }

    private static void inOrder() {
        Check.about("The statements are executed in the order of the text.");
        Check.error(6, TWO + "say a 31 sun^;pass 1;");
        Check.right(TWO + "pass 1;say a 31 sun;", 2);
        Check.error(4, HEAD + "say ^a 1 sun;village a 1 1;");
        AlmanacOffice x = Check.right(HEAD + "village a 10 50;say a 9 sun;pass 1;fair f a 1 3 2;pass 1;", 1);
        Check.due("a later fair sells later", x.soldOf(0, 9), 3);
        AlmanacOffice y = Check.right(HEAD + "village a 10 50;pass 1;village b 10 50;pass 1;", 2);
        // 11, 330 and 365 are drawn: one for the first day, two for the second one.
        Check.due("a later village is drawn for later", y.seed(), 365);
        AlmanacOffice z = Check.right(TWO + "say a 1 rain;say a 2 rain;retract 0;say a 2 sun;pass 2;", 2);
        Check.due("hits", z.hits(), 1);
        Check.due("regrets", z.regrets(), 0);
        Check.due("retractions", z.retractions(), 2);
    }

    private static void firstError() {
        Check.about("The parser reads the tokens from left to right and stops at the first token that has an error.");
        Check.error(2, "almanac ^1024 21 21 21");
        Check.error(2, "almanac 1023 ^21 21 21");
        Check.error(1, "^x 1024 21");
        Check.error(2, HEAD + "village ^abcde 0 101");
        Check.error(2, HEAD + "village abcd ^0 101");
        Check.error(3, TWO + "fair ^f zz 0 0 0");
        Check.error(4, TWO + "fair g ^zz 0 0 0");
        Check.error(2, TWO + "fair g a ^0 0 0");
        Check.error(2, TWO + "fair g a 1 ^0 0");
        Check.error(4, TWO + "say ^c 10000 snow");
        Check.error(2, TWO + "say a ^10000 snow");
        Check.error(1, TWO + "say a 31 ^snow;");
        Check.error(1, TWO + "village c 1 1^,pass 201;");
        Check.error(2, TWO + "pass ^201,");
    }

    private static void severalErrors() {
        Check.about("If that token has several errors, the smallest error code applies.");
        // A new name that is too long and a keyword that is used up; a VILLAGE that is too long and unknown; a page that is neither there nor affordable.
        String six = HEAD + "village a 1 1;village b 1 1;village c 1 1;village d 1 1;village e 1 1;village f 1 1;";
        Check.error(2, six + "fair ^village a 1 1 1;");
        Check.error(1, six + "pass ^village;");
        Check.error(1, six + "pass 1^village");
        Check.error(4, six + "say ^village 1 sun;");
        Check.error(4, "almanac 0 0 0 1;village a 1 1;say a 1 sun;pass 1;retract ^0;");
        // The semicolon that is missing is told before the refusal.
        Check.error(1, TWO + "say a 0 sun ^0;");
        Check.error(2, "almanac 0 0 0 ^21;");
    }

    /** Each beginning of a text: it ends too early, unless it ends with a statement or cuts a word into one that is not allowed. */
    private static void earlyEnds() {
        Check.about("The error position is the offset of the first byte of the token; it is the length of the text if the text ends too early.");
        String text = HEAD + " village x 50 50;\nfair y x 1 9 2; say x 3 rain;say x 4 storm; retract 0 ;pass 10;";
        List<String> whole = List.of("almanac", "village", "fair", "say", "rain", "storm", "retract", "pass", "x", "y");
        for (int length = 0; length <= text.length(); length++) {
            String part = text.substring(0, length);
            int start = length;
            while (start > 0 && Character.isLetter(part.charAt(start - 1))) start--;
            String last = part.substring(start);
            String trimmed = part.replace('\n', ' ').trim();
            if (trimmed.endsWith(";")) Check.right(part, part.contains("50;") ? 1 : 0);
            else if (last.isEmpty() || whole.contains(last)) Check.error(1, part + "^");
            else Check.error(1, part.substring(0, start) + "^" + last);
        }
        Check.error(1, HEAD + "pass  \n \n  ^");
        Check.error(1, "almanac 0 1 0 0 \n^");
        Check.error(1, "almanac 0 1 0 0^");
    }

    private static void loading() {
        Check.about("load: replaces the state by the result. The input buffer is empty afterwards, also if the text has an error.");
        AlmanacOffice x = new AlmanacOffice();
        Check.feed(x, HEAD);
        Check.due("load without villages", x.load(), 0);
        Check.dueText("nothing of the former state is left", Check.stateOf(x), "0 0 0 0 0 0 w1,0 w0,0 w0,0 000");
        Check.dueThrow("length after load", IllegalArgumentException.class, () -> x.truncateInput(1));
        Check.dueThrow("a second load has an empty text", IllegalArgumentException.class, () -> x.load());
        Check.due("its error code", x.errorCode(), 1);
        Check.due("its error position", x.errorPosition(), 0);
        Check.feed(x, HEAD + "pass 201;");
        Check.dueThrow("load of an error", IllegalArgumentException.class, () -> x.load());
        Check.dueThrow("length after an error", IllegalArgumentException.class, () -> x.truncateInput(1));
        Check.dueThrow("load after an error has an empty text", IllegalArgumentException.class, () -> x.load());
        Check.due("position in the empty text", x.errorPosition(), 0);

        Check.about("load: if the text has an error, the state does not change.");
        String text = HEAD + "village a 50 50;fair f a 1 9 2;say a 3 rain;say a 9 sun;pass 2;";
        AlmanacOffice y = Check.loaded(text);
        String before = Check.stateOf(y);
        int[] future = {y.coinsAfter(1), y.coinsAfter(9), y.trustAfter(0, 9), y.daysUntilEmpty()};
        Check.feed(y, "almanac 9 1 2 3;village b 2 2;village c 3 3;fair g c 2 2 2;say c 2 storm;pass 20;say c 22 sun;retract 0;x");
        Check.dueThrow("load of an error at the end", IllegalArgumentException.class, () -> y.load());
        Check.dueText("state after it", Check.stateOf(y), before);
        Check.due("coinsAfter(1)", y.coinsAfter(1), future[0]);
        Check.due("coinsAfter(9)", y.coinsAfter(9), future[1]);
        Check.due("trustAfter(0, 9)", y.trustAfter(0, 9), future[2]);
        Check.due("daysUntilEmpty()", y.daysUntilEmpty(), future[3]);
        // What a question about the future worked out, and what a wrong text built, is not in a text that is read later.
        AlmanacOffice z = Check.loaded(text);
        z.coinsAfter(200);
        Check.feed(z, "almanac 9 1 2 3;village b 2 2;fair g b 2 2 2;say b 2 storm;pass 20;say b 22 sun;pass 1;x");
        Check.dueThrow("load of an error", IllegalArgumentException.class, () -> z.load());
        Check.load(z, text);
        Check.dueText("state of the same text", Check.stateOf(z), before);
    }

    private static void errorOfTheLatestLoad() {
        Check.about("errorCode and errorPosition: of the latest call of load; 0 and NONE if it had no error or if load was not called.");
        AlmanacOffice x = new AlmanacOffice();
        told(x, "of a new object", 0, AlmanacOffice.NONE);
        x.save(0);
        Check.feed(x, HEAD + "pass 201;");
        Check.dueThrow("load", IllegalArgumentException.class, () -> x.load());
        told(x, "after an error", 2, 21);
        x.pass(1);
        x.undo();
        x.restore(0);
        x.appendInput(0, 0, 0, 0, 0);
        told(x, "after other calls", 2, 21);
        x.truncateInput(0);
        Check.dueThrow("load of nothing", IllegalArgumentException.class, () -> x.load());
        told(x, "after another error", 1, 0);
        Check.load(x, HEAD);
        told(x, "after a right text", 0, AlmanacOffice.NONE);
        x.undo();
        told(x, "after its undo", 0, AlmanacOffice.NONE);
    }

    private static void told(AlmanacOffice x, String when, int code, int position) {
        Check.due("errorCode " + when, x.errorCode(), code);
        Check.due("errorPosition " + when, x.errorPosition(), position);
    }

    private static void findingNames() {
        Check.about("findName: the village or fair whose name is the whole input buffer; NONE if there is none. The input buffer does not change.");
        AlmanacOffice x = Check.loaded(HEAD + "village a 1 1;village ab 1 1;village abc 1 1;village abcd 1 1;village z 1 1;village zz 1 1;"
            + "fair b a 1 1 1;fair bc a 1 1 1;fair bcd a 1 1 1;fair bcde a 1 1 1;fair y a 1 1 1;fair yzzy a 1 1 1;");
        String[] known = {"a", "ab", "abc", "abcd", "z", "zz", "b", "bc", "bcd", "bcde", "y", "yzzy"};
        for (int i = 0; i < known.length; i++) Check.due("findName of " + known[i], find(x, known[i]), i < 6 ? i : 94 + i);
        String[] unknown = {"", " ", ";", "0", "aa", "abcda", "aabcd", "abcd ", " abcd", "abcd\n", "abcd\0", "\0abcd", "\0a", "a\0\0\0", "abc\0", "A", "Abcd", "ABCD",
            "abc{", "ab`d", "yzz", "zzy", "yzzyyzzy", "ayzzy", "cd", "bcdea", "\u0101", "\u00e1", "zzz", "aab"};
        for (String name : unknown) Check.due("findName of '" + name + "'", find(x, name), AlmanacOffice.NONE);
        Check.feed(x, "abcdabcd");
        Check.due("findName of 8 letters", x.findName(), AlmanacOffice.NONE);
        x.truncateInput(4);
        Check.due("findName of the 4 letters left", x.findName(), 3);
        Check.due("findName again", x.findName(), 3);
        x.truncateInput(1);
        Check.due("findName of the letter left", x.findName(), 0);
        AlmanacOffice y = new AlmanacOffice();
        for (int i = 0; i < 30; i++) y.appendInput(0x62726565, 0x62726565, 0x62726565, 0x62726565, 0x62726565);
        Check.due("findName of a full buffer", y.findName(), AlmanacOffice.NONE);
        y.truncateInput(4);
        Check.due("findName of bree", y.findName(), 0);
        AlmanacOffice z = Check.loaded(HEAD);
        Check.due("findName without names", find(z, "bree"), AlmanacOffice.NONE);
        Check.due("findName of nothing without names", find(z, ""), AlmanacOffice.NONE);
    }

    private static int find(AlmanacOffice x, String name) {
        x.truncateInput(0);
        Check.feed(x, name);
        int found = x.findName();
        x.truncateInput(0);
        return found;
    }
}
