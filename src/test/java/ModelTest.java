import java.lang.reflect.InvocationTargetException;
import java.lang.reflect.Method;
import java.lang.reflect.Modifier;
import java.util.ArrayList;
import java.util.Comparator;
import java.util.List;

/** All promises: long runs of mixed calls, answered by the program and by OfficeModel alike. */
final class ModelTest {
    private static final int RUNS = 600;
    private static final int CALLS = 512;
    private static final List<Method> FACE = new ArrayList<>();

    private final AlmanacOffice office = new AlmanacOffice();
    private final OfficeModel model = new OfficeModel();
    private final int run;
    private final StringBuilder log = new StringBuilder();
    private long chance;
    private int calls = 0;
    private boolean right = true;

    private ModelTest(int run) {
        this.run = run;
        this.chance = 7919L * run + 1;
    }

    public static void main(String[] args) {
        for (Method method : AlmanacOffice.class.getDeclaredMethods()) {
            if (Modifier.isPublic(method.getModifiers())) FACE.add(method);
        }
        FACE.sort(Comparator.comparing(Method::getName));
        Check.due("methods of the face", FACE.size(), 60);
        boolean right = true;
        for (int run = 0; run < RUNS && right; run++) {
            ModelTest test = new ModelTest(run);
            test.go();
            right = test.right;
        }
        Check.end();
    }

    /** A number from 0 to most, by a row of numbers that is the same every time. */
    private int upTo(int most) {
        chance = chance * 6364136223846793005L + 1442695040888963407L;
        return (int) ((chance >>> 33) % (most + 1));
    }

    private void go() {
        while (right && calls < CALLS - 40) {
            int kind = upTo(19);
            if (kind == 0) loadText();
            else if (kind < 5) call("print", village(), model.day() + upTo(33) - 1, upTo(20) == 0 ? 3 : upTo(2));
            else if (kind < 8) call("pass", upTo(6) == 0 ? upTo(202) : 1 + upTo(3));
            else if (kind == 8) call("retract", upTo(2));
            else if (kind == 9) call(upTo(1) == 0 ? "undo" : "findName");
            else if (kind == 10) call(upTo(1) == 0 ? "save" : "restore", upTo(12) - 5 == 3 ? 2 : upTo(1));
            else if (kind == 11) call("setOdds", upTo(10) == 0 ? 3 : upTo(2), upTo(21));
            else if (kind == 12) call("setTrust", village(), upTo(101));
            else if (kind == 13) call("setPeople", village(), upTo(100));
            else if (kind == 14 && upTo(3) == 0) name();
            else anyCall();
        }
    }

    private int village() {
        return upTo(15) == 0 ? upTo(8) - 1 : upTo(Math.max(0, model.villageCount() - 1));
    }

    private void anyCall() {
        Method method = FACE.get(upTo(FACE.size() - 1));
        if (method.getName().equals("load") || method.getName().endsWith("Input")) return;
        Object[] arguments = new Object[method.getParameterCount()];
        for (int i = 0; i < arguments.length; i++) arguments[i] = argument(method.getName(), i);
        call(method.getName(), arguments);
    }

    private int argument(String method, int place) {
        int kind = upTo(40);
        if (kind == 0) return upTo(1) == 0 ? Integer.MIN_VALUE : Integer.MAX_VALUE;
        if (kind == 1) return upTo(1000) - 500;
        if (method.endsWith("After") && (place == 1 || method.startsWith("coins"))) return upTo(3) == 0 ? upTo(203) - 1 : upTo(35);
        if (place == 1 && model.forecastCount() > 0) return model.forecastAt(upTo(model.forecastCount() - 1)) / 10;
        if (method.equals("outputByte") || method.equals("forecastAt")) return upTo(31) - 1;
        return upTo(7) - 1;
    }

    private void name() {
        feed(word());
        call("findName");
        call("truncateInput", 0);
    }

    private void loadText() {
        feed(text());
        call("load");
        call("errorCode");
        call("errorPosition");
        call("truncateInput", upTo(4) == 0 ? 1 : 0);
    }

    private void feed(String text) {
        for (int i = 0; i < text.length(); i += 20) {
            Object[] words = new Object[5];
            for (int word = 0; word < 5; word++) {
                int packed = 0;
                for (int k = 0; k < 4; k++) {
                    int at = i + 4 * word + k;
                    packed = packed << 8 | (at < text.length() ? text.charAt(at) & 255 : 0);
                }
                words[word] = packed;
            }
            call("appendInput", words);
        }
        call("truncateInput", text.length());
    }

    private String word() {
        String[] words = {"a", "b", "c", "d", "e", "f", "g", "ab", "abcd", "sun", "say", "bree", "dale", "mart", "x", "abcde", "village"};
        return words[upTo(words.length - (upTo(8) == 0 ? 1 : 3))];
    }

    private String number(int least, int most) {
        if (upTo(60) == 0) return String.valueOf(least - 1 + (most - least + 2) * upTo(1)).replace("-1", "0");
        return (upTo(20) == 0 ? "000" : "") + (least + upTo(most - least));
    }

    private String text() {
        StringBuilder text = new StringBuilder();
        text.append("almanac " + number(0, 1023) + " " + number(0, 20) + " " + number(0, 20) + " " + number(0, 20) + ";");
        List<String> villages = new ArrayList<>();
        int statements = upTo(22);
        for (int i = 0; i < statements; i++) text.append(statement(villages, i < 3 ? 0 : upTo(12)));
        if (upTo(3) == 0) damage(text);
        text.setLength(Math.min(600, text.length()));
        return text.toString();
    }

    private String statement(List<String> villages, int kind) {
        String known = villages.isEmpty() || upTo(40) == 0 ? word() : villages.get(upTo(villages.size() - 1));
        if (kind < 2) {
            String name = upTo(30) == 0 ? word() : "" + (char) ('h' + villages.size()) + (upTo(1) == 0 ? "x" : "");
            villages.add(name);
            return "village " + name + " " + number(1, 99) + " " + number(0, 100) + ";";
        }
        if (kind < 4) {
            String name = upTo(30) == 0 ? word() : "" + (char) ('a' + upTo(25)) + (char) ('a' + upTo(25)) + "z";
            return "fair " + name + " " + known + "\n" + number(1, 12) + " " + number(1, 99) + " " + number(1, 20) + ";";
        }
        if (kind < 10) return "say " + known + " " + (1 + upTo(upTo(20) == 0 ? 40 : 29)) + " " + (new String[] {"sun", "rain", "storm"})[upTo(2)] + ";";
        if (kind == 10) return "retract " + upTo(1) + " ;";
        return "pass" + number(0, upTo(4) == 0 ? 200 : 9) + ";";
    }

    /** Changes, removes or doubles some bytes. */
    private void damage(StringBuilder text) {
        String signs = "a0; \n,Z\0\u00ffz9";
        int at = upTo(text.length() - 1);
        int kind = upTo(3);
        if (kind == 0) text.setCharAt(at, signs.charAt(upTo(signs.length() - 1)));
        else if (kind == 1) text.deleteCharAt(at);
        else if (kind == 2) text.insert(at, signs.charAt(upTo(signs.length() - 1)));
        else text.setLength(at);
    }

    private void call(String name, Object... arguments) {
        if (!right || calls >= CALLS) return;
        calls++;
        log.append(name).append(List.of(arguments)).append('\n');
        String got = answer(office, name, arguments);
        String want = answer(model, name, arguments);
        if (!got.equals(want)) {
            right = false;
            Check.report("run " + run + ": " + name + List.of(arguments) + " answered " + got + ", due is " + want + ", after\n" + log);
        }
    }

    private static String answer(Object target, String name, Object[] arguments) {
        Class<?>[] types = new Class<?>[arguments.length];
        java.util.Arrays.fill(types, int.class);
        try {
            Method method = target.getClass().getMethod(name, types);
            return String.valueOf(method.invoke(target, arguments));
        } catch (InvocationTargetException e) {
            return "throws " + e.getCause().getClass().getName();
        } catch (ReflectiveOperationException e) {
            throw new AssertionError(e);
        }
    }
}
