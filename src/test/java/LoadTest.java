/** Promises 4 to 6: load, its errors and their positions. */
final class LoadTest {
    private static final String HEAD = "almanac 0 1 0 0;";
    private static final String VILLAGES = HEAD + "village a 50 50;village bb 9 9;fair f a 1 99 20;";
    private static final String SIX_VILLAGES = HEAD + "village a 1 1;village b 1 1;village c 1 1;village d 1 1;village e 1 1;village f 1 1;";
    private static final String SIX_FAIRS = HEAD + "village v 1 1;fair a v 1 1 1;fair b v 1 1 1;fair c v 1 1 1;fair d v 1 1 1;fair e v 1 1 1;fair f v 1 1 1;";

    public static void main(String[] args) {
        rightTexts();
        freshState();
        errorIsForgotten();
        head();
        villages();
        fairs();
        says();
        retracts();
        passes();
        tokens();
        Check.end();
    }

    private static void rightTexts() {
        Check.right(HEAD, 0);
        Check.right("\n almanac\n1023 20 20 20\n;\n ", 0);
        Check.right("almanac 0 0 0 1;pass0;pass 000200;", 0);
        Check.right("almanac0 0 1 00000000000000000000;village fair 1 1;", 1);
        Check.right(SIX_VILLAGES, 6);
        Check.right(SIX_FAIRS, 1);
        Check.right(HEAD + "village sun 99 100;village v 1 0;fair rain sun 12 99 20;fair g v 1 1 1;say sun 30 storm;say v 1 rain;", 2);
        Check.right(HEAD + "village a 1 1;pass 200;pass 200;say a 430 sun;say a 401 sun;retract 0;", 1);
    }

    private static void freshState() {
        AlmanacOffice x = Check.loaded("almanac 5 1 2 3;village a 9 9;");
        Check.dueText("state of a short text", Check.stateOf(x), "0 5 0 0 0 0 w1,0 w2,0 w3,0 v9,9 000");
        Check.load(x, VILLAGES + "say a 3 rain;pass 3;");
        // 25 and 12 copies are sold, for 740 coins; half of them are paid back.
        Check.dueText("state of a longer text", Check.stateOf(x), "3 718 370 0 1 0 w1,6 w0,0 w0,0 v50,40 v9,9 f0,1,99,20 r30 000");
        Check.load(x, "almanac 5 1 2 3;village a 9 9;");
        Check.dueText("nothing is left of the former state", Check.stateOf(x), "0 5 0 0 0 0 w1,0 w2,0 w3,0 v9,9 000");
    }

    private static void errorIsForgotten() {
        AlmanacOffice x = new AlmanacOffice();
        Check.dueThrow("load of nothing", IllegalArgumentException.class, () -> x.load());
        Check.due("errorCode", x.errorCode(), 1);
        Check.due("errorPosition", x.errorPosition(), 0);
        x.pass(1);
        x.undo();
        Check.due("errorCode is not part of the state", x.errorCode(), 1);
        Check.load(x, HEAD);
        Check.due("errorCode after a right text", x.errorCode(), 0);
        Check.due("errorPosition after a right text", x.errorPosition(), -1);
        x.undo();
        Check.due("errorCode after undo", x.errorCode(), 0);
    }

    private static void head() {
        Check.error(1, "^");
        Check.error(1, "  \n ^");
        Check.error(1, "^;");
        Check.error(1, "^almanach 0 1 0 0;");
        Check.error(1, "^village a 1 1;");
        Check.error(1, " ^5");
        Check.error(1, "almanac^");
        Check.error(1, "almanac ^;");
        Check.error(1, "almanac 1 2 3 4^");
        Check.error(1, "almanac 1 2 3 4 \n ^");
        Check.error(1, "almanac 1 2 3 4 ^5;");
        Check.error(1, "almanac 1 2 3 4 ^almanac");
        Check.error(1, "almanac 1 2 ^-3 4;");
        Check.error(2, "almanac ^1024 1 1 1;");
        Check.error(2, "almanac 0 ^21 1 1;");
        Check.error(2, "almanac 0 1 ^21 1;");
        Check.error(2, "almanac 0 1 1 ^21;");
        Check.error(2, "almanac 0 0 0 ^21;");
        Check.error(2, "almanac 0 0 0 ^0;");
        Check.error(2, "almanac 0 0 0 ^00");
        Check.error(2, "almanac ^18446744073709551616 1 1 1;");
        Check.error(2, "almanac ^4294967296 1 1 1;");
        Check.error(1, HEAD + "^almanac 0 1 0 0;");
        Check.error(1, HEAD + "^;");
    }

    private static void villages() {
        Check.error(1, HEAD + "village ^5 1 1;");
        Check.error(1, HEAD + "village ^");
        Check.error(1, HEAD + "village ^; 1 1;");
        Check.error(2, HEAD + "village ^abcde 1 1;");
        Check.error(2, HEAD + "village ^village 1 1;");
        Check.error(3, HEAD + "village abcd 1 1;village ^abcd 1 1;");
        Check.error(3, VILLAGES + "village ^f 1 1;");
        Check.error(2, HEAD + "village a ^0 1;");
        Check.error(2, HEAD + "village a ^100 1;");
        Check.error(1, HEAD + "village a ^b 1;");
        Check.error(2, HEAD + "village a 1 ^101;");
        Check.error(1, HEAD + "village a 1 ^;");
        Check.error(1, HEAD + "village a 1 1 ^1;");
        Check.error(1, HEAD + "village a 1 1^");
        Check.error(5, SIX_VILLAGES + "^village");
        Check.error(5, SIX_VILLAGES + "^village a 1 1;");
        Check.error(1, SIX_VILLAGES + "^villages");
        Check.error(1, "almanac 0 1 0 0;^Village a 1 1;");
    }

    private static void fairs() {
        Check.error(1, VILLAGES + "fair ^1 a 1 1 1;");
        Check.error(2, VILLAGES + "fair ^abcde a 1 1 1;");
        Check.error(3, VILLAGES + "fair ^bb a 1 1 1;");
        Check.error(3, VILLAGES + "fair ^f a 1 1 1;");
        Check.error(4, VILLAGES + "fair g ^c 1 1 1;");
        Check.error(4, VILLAGES + "fair g ^f 1 1 1;");
        Check.error(4, VILLAGES + "fair g ^g 1 1 1;");
        Check.error(4, VILLAGES + "fair g ^abcde 1 1 1;");
        Check.error(1, VILLAGES + "fair g ^0 1 1 1;");
        Check.error(2, VILLAGES + "fair g a ^0 1 1;");
        Check.error(2, VILLAGES + "fair g a ^13 1 1;");
        Check.error(2, VILLAGES + "fair g a 1 ^0 1;");
        Check.error(2, VILLAGES + "fair g a 1 ^100 1;");
        Check.error(2, VILLAGES + "fair g a 1 1 ^0;");
        Check.error(2, VILLAGES + "fair g a 1 1 ^21;");
        Check.error(1, VILLAGES + "fair g a 1 1 1 ^1;");
        Check.error(1, VILLAGES + "fair g a 1 1^");
        Check.error(5, SIX_FAIRS + "^fair g v 1 1 1;");
        Check.error(4, HEAD + "fair g ^g 1 1 1;");
    }

    private static void says() {
        Check.error(4, VILLAGES + "say ^c 1 sun;");
        Check.error(4, VILLAGES + "say ^f 1 sun;");
        Check.error(4, VILLAGES + "say ^aaaaa 1 sun;");
        Check.error(1, VILLAGES + "say ^1 1 sun;");
        Check.error(1, VILLAGES + "say a ^sun;");
        Check.error(2, VILLAGES + "say a ^10000 sun;");
        Check.error(1, VILLAGES + "say a 9999 ^snow;");
        Check.error(1, VILLAGES + "say a 1 ^0;");
        Check.error(1, VILLAGES + "say a 1 ^storms;");
        Check.error(1, VILLAGES + "say a 9999 sun ^sun;");
        Check.error(1, VILLAGES + "say a 9999 sun^");
        Check.error(6, VILLAGES + "say a 0 sun^;");
        Check.error(6, VILLAGES + "say a 31 sun^;");
        Check.error(6, VILLAGES + "say a 9999 sun ^;");
        Check.error(6, VILLAGES + "say a 7 sun;say a 7 rain^;");
        Check.error(6, VILLAGES + "pass 3;say a 3 sun^;");
        StringBuilder full = new StringBuilder("almanac 0 1 0 0;village a 1 1;village b 1 1;");
        for (int day = 1; day <= 30; day++) full.append("say a ").append(day).append(" sun;");
        Check.error(6, full + "say b 1 sun^;");
    }

    private static void retracts() {
        Check.error(4, VILLAGES + "retract ^0;");
        Check.error(4, VILLAGES + "say a 1 sun;retract ^1;");
        Check.error(4, VILLAGES + "say a 1 sun;retract ^99999999999999999999;");
        Check.error(4, VILLAGES + "say a 1 sun;retract ^4294967296;");
        Check.error(1, VILLAGES + "say a 1 sun;retract ^a;");
        Check.error(1, VILLAGES + "say a 1 sun;retract 0 ^0;");
        Check.error(1, VILLAGES + "say a 1 sun;retract 0^");
        Check.error(4, VILLAGES + "say a 1 sun;retract 0;retract ^0;");
        // A regretted storm leaves -10 coins, so that even a page without sales is refused.
        Check.error(6, "almanac 0 0 0 1;village a 1 1;say a 1 sun;say a 9 sun;pass 1;retract ^0;");
        Check.error(6, "almanac 0 0 0 1;village a 1 1;say a 1 sun;say a 9 sun;pass 1;retract ^0");
        Check.right("almanac 0 0 0 1;village a 1 1;say a 1 storm;say a 9 sun;pass 1;retract 0;", 1);
    }

    private static void passes() {
        Check.error(2, HEAD + "pass ^201;");
        Check.error(1, HEAD + "pass ^;");
        Check.error(1, HEAD + "pass ^-1;");
        Check.error(1, HEAD + "pass 1 ^2;");
        Check.error(1, HEAD + "pass 1^");
        Check.error(1, HEAD + "^passes 1;");
    }

    private static void tokens() {
        Check.error(1, HEAD + "^\t");
        Check.error(1, HEAD + "^\r\n");
        Check.error(1, HEAD + "^\0");
        Check.error(1, "almanac 0 1 0 0^,");
        Check.error(1, "^blmanac 0 1 0 0;");
        Check.error(1, HEAD + "^x");
        Check.error(1, HEAD + "^7");
        Check.error(1, HEAD + "village ^A 1 1;");
        Check.error(1, HEAD + "village a^A 1 1;");
        Check.error(1, HEAD + "village a 1^.5 1;");
        Check.error(1, HEAD + "village a 1^x 1;");
        Check.error(4, VILLAGES + "say a 1 sun;retract ^7x");
        Check.error(1, "^\u00e9");
        Check.error(1, "almanac 1^\u00e9");
    }
}
