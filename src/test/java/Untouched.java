import java.util.ArrayList;
import java.util.List;

/**
 * Tells whether a call leaves an office as it was. All that later calls can tell is asked of offices that are made anew
 * for each question: of one that had the call, and of one that had not.
 */
final class Untouched {
    interface Making {
        AlmanacOffice make();
    }

    interface Use {
        Object on(AlmanacOffice x);
    }

    private final String situation;
    private final Making making;
    private final List<Use> questions = new ArrayList<>();
    private final List<String> answers = new ArrayList<>();

    Untouched(String situation, Making making) {
        this.situation = situation;
        this.making = making;
        questions.add(Check::stateOf);
        questions.add(x -> x.errorCode() + " at " + x.errorPosition());
        questions.add(Untouched::output);
        questions.add(Untouched::inputLength);
        questions.add(Untouched::inputText);
        questions.add(x -> afterInput(x, "bree", "dale", "mart", "a", "b", "c", "f", "q"));
        questions.add(Untouched::pages);
        for (int slot = 0; slot < 2; slot++) {
            int itsSlot = slot;
            questions.add(x -> answer(y -> y.restore(itsSlot), x) + Check.stateOf(x));
        }
        for (int calls = 1; calls <= 9; calls++) {
            int itsCalls = calls;
            questions.add(x -> undone(x, itsCalls));
        }
        for (Use question : questions) answers.add(String.valueOf(question.on(making.make())));
    }

    /** A call that throws: the exception that is due, and nothing else happens. */
    void refuses(String call, Class<? extends Exception> due, Use use) {
        Check.dueThrow(situation + ": " + call, due, () -> use.on(making.make()));
        changesNothing(call, use);
    }

    /** What a new office of the same making answers. */
    String fresh(Use use) {
        return answer(use, making.make());
    }

    /** A call that answers a question. */
    void answers(String call, Object due, Use use) {
        AlmanacOffice x = making.make();
        Check.dueText(situation + ": " + call, answer(use, x), String.valueOf(due));
        Check.dueText(situation + ": " + call + " again", answer(use, x), String.valueOf(due));
        changesNothing(call, use);
    }

    private void changesNothing(String call, Use use) {
        for (int i = 0; i < questions.size(); i++) {
            AlmanacOffice x = making.make();
            answer(use, x);
            answer(use, x);
            String got = String.valueOf(questions.get(i).on(x));
            if (!got.equals(answers.get(i))) {
                Check.report(situation + ": " + call + " changed '" + answers.get(i) + "' into '" + got + "'");
                return;
            }
        }
    }

    static String answer(Use use, AlmanacOffice x) {
        try {
            return String.valueOf(use.on(x));
        } catch (RuntimeException e) {
            return "throws " + e.getClass().getSimpleName();
        }
    }

    private static String output(AlmanacOffice x) {
        StringBuilder bytes = new StringBuilder();
        String next = answer(y -> y.outputByte(0), x);
        for (int i = 1; !next.startsWith("throws"); i++) {
            bytes.append(next).append(' ');
            int position = i;
            next = answer(y -> y.outputByte(position), x);
        }
        return bytes.append(next).toString();
    }

    /** The next append tells it; if that is refused, the greatest length that truncateInput allows is the present one. */
    private static Object inputLength(AlmanacOffice x) {
        String appended = answer(y -> y.appendInput(0, 0, 0, 0, 0), x);
        if (!appended.startsWith("throws")) return Integer.parseInt(appended) - 20;
        int length = 600;
        while (length > 580 && answer(truncation(length), x).startsWith("throws")) length--;
        return length;
    }

    private static Use truncation(int length) {
        return x -> x.truncateInput(length);
    }

    private static Object inputText(AlmanacOffice x) {
        return answer(y -> y.load(), x) + x.errorCode() + " at " + x.errorPosition() + Check.stateOf(x);
    }

    private static Object afterInput(AlmanacOffice x, String... names) {
        StringBuilder found = new StringBuilder(answer(y -> y.findName(), x));
        for (String name : names) {
            x.truncateInput(0);
            Check.feed(x, name);
            found.append(' ').append(x.findName());
        }
        return found;
    }

    private static Object pages(AlmanacOffice x) {
        StringBuilder text = new StringBuilder();
        for (int page = 0; page < x.pageCount(); page++) text.append(x.writePage(page)).append(output(x)).append('/');
        return text.append(answer(y -> y.writePage(8), x));
    }

    private static Object undone(AlmanacOffice x, int calls) {
        StringBuilder left = new StringBuilder();
        for (int i = 0; i < calls; i++) left.append(answer(y -> y.undo(), x)).append(' ');
        return left.append(Check.stateOf(x));
    }
}
