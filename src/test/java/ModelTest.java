import java.util.Random;
import java.util.TreeMap;

/** Long runs of calls, the same every time: AskMachine and the Model answer alike, and show the same after each call. */
public final class ModelTest {
    private static final int OBJECTS = 1500;
    private static final int CALLS = 512;
    private static final TreeMap<String, Integer> MET = new TreeMap<>();

    private final Random random;
    private final AskMachine x = new AskMachine();
    private final Model model = new Model();
    private final int object;
    /** Some objects ask few questions often, and some run into walls of fuel, quotas and budgets. */
    private final int questions;
    private final int forms;
    private final boolean tight;

    private ModelTest(int object) {
        this.object = object;
        random = new Random(object);
        questions = 1 + random.nextInt(random.nextBoolean() ? 3 : 16);
        forms = 1 + random.nextInt(4);
        tight = random.nextInt(3) == 0;
    }

    // The tests of the promises name the cases; this one is for what nobody thought of.
    public static void main(String[] args) {
        for (int object = 0; object < OBJECTS; object++) {
            new ModelTest(object).calls();
        }
        for (int state = 0; state <= 6; state++) {
            Checks.due("the calls come to state " + state, MET.getOrDefault("state " + state, 0) > 200, true);
        }
        for (String answer : new String[] {"wake true", "wake false"}) {
            Checks.due("the calls come to " + answer, MET.getOrDefault(answer, 0) > 200, true);
        }
        System.out.println(MET);
        Checks.end();
    }

    private void calls() {
        for (int call = 0; call < CALLS; call++) {
            if (call < 60 && random.nextInt(3) > 0) {
                writeOrPublish();
            } else {
                oneCall(random.nextInt(100));
            }
            Checks.due("object " + object + " after call " + call, Checks.shown(x), model.shown());
        }
        for (Model.Run run : model.runs) {
            MET.merge("state " + run.state(), 1, Integer::sum);
        }
    }

    /** A number from least to most, and now and then one next to them, or far off. */
    private int near(int least, int most) {
        int kind = random.nextInt(80);
        if (kind == 0) {
            return least - 1;
        }
        if (kind == 1) {
            return most + 1;
        }
        if (kind == 2) {
            return random.nextInt();
        }
        return least + random.nextInt(most - least + 1);
    }

    private int someForm() {
        return random.nextInt(60) == 0 ? near(0, 3) : random.nextInt(forms);
    }

    private int someQuestion() {
        return random.nextInt(60) == 0 ? near(0, 15) : random.nextInt(questions);
    }

    private int someRun() {
        return near(0, Math.max(0, model.runs.size() - 1));
    }

    private int someInstruction() {
        int kind = random.nextInt(20);
        if (kind < 6) {
            return AskMachine.ASK;
        }
        if (kind < 9) {
            return kind < 8 ? AskMachine.STORE : AskMachine.PUSH;
        }
        return kind < 11 ? near(AskMachine.PAY, AskMachine.FINISH) : near(0, 12);
    }

    private int someArgument(int instruction) {
        switch (instruction) {
            case AskMachine.ASK: return someQuestion();
            case AskMachine.PUSH: return random.nextBoolean() ? near(-99, 99) : near(-1, 2);
            case AskMachine.LOAD: case AskMachine.STORE: return near(0, 7);
            case AskMachine.JUMP: case AskMachine.ZERO: return random.nextInt(4) == 0 ? near(0, 24) : near(0, 9);
            case AskMachine.PAY: return near(0, 500);
            default: return near(0, 0);
        }
    }

    private void writeOrPublish() {
        int form = someForm();
        if (random.nextInt(10) == 0) {
            same("publish", Checks.told(() -> x.publish(form)), Checks.told(() -> model.publish(form)));
            return;
        }
        int instruction = someInstruction();
        int argument = someArgument(instruction);
        same("write", Checks.told(() -> x.write(form, instruction, argument)), Checks.told(() -> model.write(form, instruction, argument)));
    }

    private void oneCall(int kind) {
        if (kind < 14) {
            writeOrPublish();
        } else if (kind < 24) {
            setSomething(kind % 5);
        } else if (kind < 28) {
            int question = someQuestion();
            same("reword", Checks.told(() -> x.reword(question)), Checks.told(() -> model.reword(question)));
        } else if (kind < 38) {
            int respondent = tight ? near(0, 5) : near(0, 15);
            int form = someForm();
            same("begin", Checks.told(() -> x.begin(respondent, form)), Checks.told(() -> model.begin(respondent, form)));
        } else if (kind < 75) {
            int run = someRun();
            int value = near(0, random.nextBoolean() ? 9 : 1);
            same("answer", Checks.told(() -> x.answer(run, value)), Checks.told(() -> model.answer(run, value)));
        } else {
            saveWakeOrLeave(kind);
        }
    }

    private void setSomething(int kind) {
        int form = someForm();
        int question = someQuestion();
        int panel = near(0, 3);
        int fuel = tight ? near(1, 20) : near(1, 200);
        int cents = tight ? near(1, 50) : near(1, 100000);
        int quota = near(0, random.nextBoolean() ? 2 : 20);
        int price = near(0, tight ? 40 : 1000);
        switch (kind) {
            case 0: same("setFuel", Checks.told(() -> x.setFuel(form, fuel)), Checks.told(() -> model.setFuel(form, fuel))); break;
            case 1: same("setQuota", Checks.told(() -> x.setQuota(form, panel, quota)), Checks.told(() -> model.setQuota(form, panel, quota))); break;
            case 2: same("setPrice", Checks.told(() -> x.setPrice(question, price)), Checks.told(() -> model.setPrice(question, price))); break;
            default: same("fund", Checks.told(() -> x.fund(form, cents)), Checks.told(() -> model.fund(form, cents))); break;
        }
    }

    private void saveWakeOrLeave(int kind) {
        int run = someRun();
        if (kind < 86) {
            same("save", Checks.told(() -> Given.saved(x, run)), Checks.told(() -> model.save(run)));
        } else if (kind < 98) {
            String woken = Checks.told(() -> x.wake(run));
            MET.merge("wake " + woken, 1, Integer::sum);
            same("wake", woken, Checks.told(() -> model.wake(run)));
        } else {
            same("leave", Checks.told(() -> x.leave(run)), Checks.told(() -> model.leave(run)));
        }
    }

    private void same(String call, String got, String want) {
        Checks.due("object " + object + ": " + call, got, want);
    }
}
