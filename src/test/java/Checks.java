import java.util.ArrayList;
import java.util.List;
import java.util.function.Supplier;

/** What the tests share: the checks that count, and a text of all that an object shows. */
final class Checks {
    private static int wrong = 0;
    private static int made = 0;

    private Checks() {
    }

    /** What a call answered, or the simple name of what it threw; a list's own exception is told apart from a written throw. */
    static String told(Supplier<Object> call) {
        try {
            return String.valueOf(call.get());
        } catch (RuntimeException e) {
            String thrower = e.getStackTrace()[0].getClassName();
            String name = e.getClass().getSimpleName();
            return thrower.startsWith("AskMachine") || thrower.startsWith("Model") ? name : name + " of " + thrower;
        }
    }

    static void due(String what, Object got, Object want) {
        made++;
        if (!String.valueOf(got).equals(String.valueOf(want))) {
            wrong++;
            if (wrong <= 50) {
                System.out.println(what + " answered " + got + ", due is " + want);
            }
        }
    }

    /** The call throws just this, and the object shows the same as ahead of it. */
    static void refused(String what, AskMachine x, Class<?> want, Supplier<Object> call) {
        String before = shown(x);
        due(what, told(call), want.getSimpleName());
        due(what + " changes nothing", shown(x), before);
    }

    static void index(String what, AskMachine x, Supplier<Object> call) {
        refused(what, x, IndexOutOfBoundsException.class, call);
    }

    static void argument(String what, AskMachine x, Supplier<Object> call) {
        refused(what, x, IllegalArgumentException.class, call);
    }

    static void state(String what, AskMachine x, Supplier<Object> call) {
        refused(what, x, IllegalStateException.class, call);
    }

    static String shown(AskMachine x) {
        List<Object> all = new ArrayList<>();
        all.add(x.repaid());
        for (int respondent = 0; respondent < 16; respondent++) {
            all.add(x.reward(respondent));
        }
        for (int form = 0; form < 4; form++) {
            all.add(x.budget(form));
            for (int panel = 0; panel < 4; panel++) {
                all.add(x.done(form, panel));
            }
        }
        all.add(x.runs());
        for (int run = 0; run < x.runs(); run++) {
            all.add(shown(x, run));
        }
        return all.toString();
    }

    static String shown(AskMachine x, int run) {
        List<Object> all = new ArrayList<>();
        all.add("state " + x.state(run) + " question " + x.question(run) + " version " + x.version(run));
        all.add("fuel " + x.fuel(run) + " again " + x.fuelAgain(run) + " depth " + x.depth(run));
        for (int slot = 0; slot < 8; slot++) {
            all.add(x.slot(run, slot));
            all.add(x.slotAgain(run, slot));
        }
        for (int answer = 0; answer < x.answers(run); answer++) {
            all.add(x.answerAt(run, answer));
        }
        return all.toString();
    }

    static void end() {
        System.out.println(made + " checks, " + wrong + " wrong");
        if (wrong > 0) {
            System.exit(1);
        }
    }
}
