import java.lang.reflect.Constructor;
import java.lang.reflect.Field;
import java.lang.reflect.Method;
import java.lang.reflect.Modifier;
import java.util.Arrays;
import java.util.Set;
import java.util.TreeSet;

/** The public face at the head of the document: each constant, the constructor and each method with its throws clause, and no more. */
final class FaceTest {
    private static final String[] METHODS = {
        "int appendInput(int, int, int, int, int) throws IllegalStateException",
        "int truncateInput(int) throws IllegalArgumentException",
        "int load() throws IllegalArgumentException",
        "int errorCode()",
        "int errorPosition()",
        "int day()",
        "int seed()",
        "int coins()",
        "int villageCount()",
        "int fairCount()",
        "int findName()",
        "int peopleOf(int) throws IndexOutOfBoundsException",
        "int trustOf(int) throws IndexOutOfBoundsException",
        "int forecastsFor(int) throws IndexOutOfBoundsException",
        "int fairVillage(int) throws IndexOutOfBoundsException",
        "int periodOf(int) throws IndexOutOfBoundsException",
        "int stockOf(int) throws IndexOutOfBoundsException",
        "int priceOf(int) throws IndexOutOfBoundsException",
        "int daysUntilFair(int) throws IndexOutOfBoundsException",
        "int oddsOf(int) throws IllegalArgumentException",
        "double chanceOf(int) throws IllegalArgumentException",
        "int drawnThisYear(int) throws IllegalArgumentException",
        "int forecastCount()",
        "boolean hasForecast(int, int) throws IndexOutOfBoundsException",
        "int weatherOf(int, int) throws IndexOutOfBoundsException, NoSuchElementException",
        "int soldOf(int, int) throws IndexOutOfBoundsException, NoSuchElementException",
        "int paidOf(int, int) throws IndexOutOfBoundsException, NoSuchElementException",
        "int pageOf(int, int) throws IndexOutOfBoundsException, NoSuchElementException",
        "int forecastAt(int) throws NoSuchElementException",
        "int pageCount()",
        "int refundOf(int) throws NoSuchElementException",
        "boolean canRetract(int) throws NoSuchElementException",
        "int printRefusal(int, int) throws IndexOutOfBoundsException",
        "int likeliestWeather()",
        "int tomorrowIn(int) throws IndexOutOfBoundsException",
        "int regretCount()",
        "int regretAt(int) throws IndexOutOfBoundsException",
        "int hits()",
        "int regrets()",
        "int retractions()",
        "int coinsAfter(int) throws IllegalArgumentException",
        "int trustAfter(int, int) throws IndexOutOfBoundsException, IllegalArgumentException",
        "int daysUntilEmpty()",
        "int bestSeller()",
        "int copyDifference()",
        "int coinDifference()",
        "int bookErrors()",
        "float hitShare()",
        "double averageTrust()",
        "int print(int, int, int) throws IndexOutOfBoundsException, IllegalArgumentException, IllegalStateException",
        "int retract(int) throws NoSuchElementException, IllegalStateException",
        "int setTrust(int, int) throws IndexOutOfBoundsException, IllegalArgumentException",
        "int setPeople(int, int) throws IndexOutOfBoundsException, IllegalArgumentException",
        "int setOdds(int, int) throws IllegalArgumentException, IllegalStateException",
        "int pass(int) throws IllegalArgumentException",
        "int writePage(int) throws NoSuchElementException",
        "int outputByte(int) throws NoSuchElementException",
        "int save(int) throws IndexOutOfBoundsException",
        "int restore(int) throws IndexOutOfBoundsException, IllegalStateException",
        "int undo() throws IllegalStateException",
    };

    public static void main(String[] args) throws Exception {
        Check.about("The public face");
        methods();
        constants();
        constructor();
        Check.due("public final class", Modifier.isPublic(AlmanacOffice.class.getModifiers()) && Modifier.isFinal(AlmanacOffice.class.getModifiers()), true);
        Check.due("interfaces", AlmanacOffice.class.getInterfaces().length, 0);
        Check.dueText("super class", AlmanacOffice.class.getSuperclass().getName(), "java.lang.Object");
        Check.end();
    }

    private static void methods() {
        Set<String> got = new TreeSet<>();
        Set<String> names = new TreeSet<>();
        for (Method method : AlmanacOffice.class.getDeclaredMethods()) {
            if (Modifier.isPrivate(method.getModifiers()) || method.isSynthetic()) continue;
            got.add((Modifier.isPublic(method.getModifiers()) && !Modifier.isStatic(method.getModifiers()) ? "" : "not public: ") + signature(method));
            names.add(method.getName());
        }
        Set<String> want = new TreeSet<>(Arrays.asList(METHODS));
        for (String signature : want) Check.due("the face has " + signature, got.contains(signature), true);
        for (String signature : got) Check.due("the document has " + signature, want.contains(signature), true);
        for (Class<?> owner : AlmanacOffice.class.getDeclaredClasses()) noPublicName(owner, names);
        noPublicName(AlmanacOffice.class, names);
    }

    /** No private method bears the name of a public one. */
    private static void noPublicName(Class<?> owner, Set<String> names) {
        for (Method method : owner.getDeclaredMethods()) {
            boolean ofTheFace = owner == AlmanacOffice.class && Modifier.isPublic(method.getModifiers());
            Check.due(owner.getSimpleName() + "." + method.getName() + " has a name of the face", !ofTheFace && names.contains(method.getName()), false);
        }
    }

    private static String signature(Method method) {
        StringBuilder text = new StringBuilder(method.getReturnType() + " " + method.getName() + "(");
        String between = "";
        for (Class<?> type : method.getParameterTypes()) {
            text.append(between).append(type);
            between = ", ";
        }
        text.append(')');
        between = " throws ";
        for (Class<?> type : method.getExceptionTypes()) {
            text.append(between).append(type.getSimpleName());
            between = ", ";
        }
        return text.toString();
    }

    private static void constants() throws Exception {
        Set<String> got = new TreeSet<>();
        for (Field field : AlmanacOffice.class.getDeclaredFields()) {
            if (Modifier.isPrivate(field.getModifiers())) continue;
            got.add(Modifier.toString(field.getModifiers()) + " " + field.getType() + " " + field.getName() + " = " + field.get(null));
        }
        String all = "[public static final int NONE = -1, public static final int RAIN = 1, public static final int STORM = 2, public static final int SUN = 0]";
        Check.dueText("the constants", got.toString(), all);
    }

    private static void constructor() {
        Constructor<?>[] all = AlmanacOffice.class.getDeclaredConstructors();
        Check.due("constructors", all.length, 1);
        Check.due("a public constructor", Modifier.isPublic(all[0].getModifiers()), true);
        Check.due("its parameters and exceptions", all[0].getParameterCount() + all[0].getExceptionTypes().length, 0);
    }
}
