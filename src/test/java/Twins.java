import java.util.function.Function;
import java.util.function.Supplier;

/** Two objects that were made alike: one is refused a call, and then both must answer alike to all that can be asked. */
final class Twins {
    private Twins() {
    }

    static void refused(String what, Supplier<AskMachine> made, Class<?> want, Function<AskMachine, Object> call) {
        AskMachine one = made.get();
        AskMachine other = made.get();
        Checks.due(what, Checks.told(() -> call.apply(one)), want.getSimpleName());
        Checks.due(what + " changes nothing", probed(one), probed(other));
    }

    // Drafts, fuels, quotas, prices and wordings can't be read: only calls that change them tell what they were.
    private static String probed(AskMachine x) {
        StringBuilder text = new StringBuilder(Checks.shown(x));
        goOn(x, text);
        for (int form = 0; form < 4; form++) {
            int f = form;
            add(text, () -> x.setFuel(f, 200));
            for (int panel = 0; panel < 4; panel++) {
                int p = panel;
                add(text, () -> x.setQuota(f, p, 20));
            }
        }
        for (int question = 0; question < 16; question++) {
            int q = question;
            add(text, () -> x.setPrice(q, 0));
            add(text, () -> x.reword(q));
        }
        for (int form = 0; form < 4; form++) {
            useUp(x, form, text);
        }
        return text.append(Checks.shown(x)).toString();
    }

    private static void goOn(AskMachine x, StringBuilder text) {
        for (int run = 0; run < x.runs(); run++) {
            int r = run;
            add(text, () -> x.wake(r));
            add(text, () -> x.answer(r, 3));
            add(text, () -> x.answer(r, 4));
        }
        text.append(Checks.shown(x));
    }

    /** Fills the draft, publishes it, and begins all runs that there can be. */
    private static void useUp(AskMachine x, int form, StringBuilder text) {
        for (int i = 0; i <= 24; i++) {
            add(text, () -> x.write(form, AskMachine.FINISH, 0));
        }
        add(text, () -> x.publish(form));
        for (int respondent = 0; respondent < 16; respondent++) {
            int r = respondent;
            add(text, () -> x.begin(r, form));
        }
    }

    private static void add(StringBuilder text, Supplier<Object> call) {
        text.append(Checks.told(call)).append(' ');
    }
}
