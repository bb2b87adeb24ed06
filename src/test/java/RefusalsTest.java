import java.util.function.Function;
import java.util.function.Supplier;

/** Each call that is refused: with the exception that its throws clause names first, and nothing has changed after it. */
public final class RefusalsTest {
    private static final int ASK = AskMachine.ASK, PUSH = AskMachine.PUSH, STORE = AskMachine.STORE, ADD = AskMachine.ADD;
    private static final int JUMP = AskMachine.JUMP, PAY = AskMachine.PAY, GATE = AskMachine.GATE, FINISH = AskMachine.FINISH;

    private static final int LEAST = Integer.MIN_VALUE, MOST = Integer.MAX_VALUE;
    private static final int[] NO_FORMS = {-1, 4, LEAST, MOST};
    private static final int[] NO_PANELS = {-1, 4, LEAST, MOST};
    private static final int[] NO_QUESTIONS = {-1, 16, LEAST, MOST};
    private static final int[] NO_RESPONDENTS = {-1, 16, LEAST, MOST};
    private static final int[] NO_SLOTS = {-1, 8, LEAST, MOST};
    private static final int[] NO_RUNS = {-1, 8, LEAST, MOST};
    private static final int[] LEAST_ARGUMENT = {0, -99, 0, 0, 0, 0, 0, 0, 0, 0, 0, 0, 0};
    private static final int[] MOST_ARGUMENT = {15, 99, 7, 7, 0, 0, 0, 0, 24, 24, 500, 0, 0};

    // The runs of town(), one of each kind.
    private static final int ASKING = 0, ANSWERED = 1, SAVED = 2, DONE = 3, SCREENED = 4, WRONG = 5, EXHAUSTED = 6, LEFT = 7;

    public static void main(String[] args) {
        townIsWhatTheTestsTakeItFor();
        noSuchForm();
        noSuchPanelOrQuestion();
        noSuchRespondent();
        noSuchRun();
        noSuchSlotOrAnswer();
        noRunsAtAll();
        instructionsAndArguments();
        settings();
        values();
        drafts();
        begins();
        answers();
        savesWakesAndLeaves();
        Checks.end();
    }

    /** Forms in each condition (0 with a draft, 1 with 6 versions, 2 with an empty draft, 3 with a full one), and eight runs. */
    private static AskMachine town() {
        AskMachine x = new AskMachine();
        Given.publish(x, 0, ASK, 3, STORE, 1, ASK, 4, GATE, 0, PAY, 7, FINISH, 0);
        for (int version = 0; version < 6; version++) {
            Given.publish(x, 1, ASK, 5, ADD, 0);
        }
        Given.publish(x, 2, ASK, 6, JUMP, 1);
        for (int form = 0; form < 4; form++) {
            x.fund(form, 500 + form);
            x.setFuel(form, 40 + form);
            x.setQuota(form, form, 3 + form);
        }
        x.setPrice(3, 10);
        x.setPrice(4, 20);
        x.setPrice(5, 30);
        x.reword(3);
        x.setQuota(0, 2, 0);
        int[][] begun = {{0, 0}, {4, 0}, {1, 0}, {5, 0}, {2, 0}, {0, 1}, {0, 2}, {3, 0}};
        for (int run = 0; run < begun.length; run++) {
            x.begin(begun[run][0], begun[run][1]);
            if (run != ASKING) {
                x.answer(run, run);
            }
        }
        x.save(SAVED);
        x.reword(3);
        x.answer(DONE, 1);
        x.answer(SCREENED, 1);
        x.leave(LEFT);
        write(x, 0, 2, FINISH, 0);
        write(x, 1, 1, FINISH, 0);
        write(x, 3, 24, PUSH, 9);
        return x;
    }

    private static void write(AskMachine x, int form, int times, int instruction, int argument) {
        for (int i = 0; i < times; i++) {
            x.write(form, instruction, argument);
        }
    }

    /** All 24 runs are begun, and each asks; form 3 has no version. */
    private static AskMachine crowd() {
        AskMachine x = new AskMachine();
        Given.publish(x, 0, ASK, 0, FINISH, 0);
        Given.publish(x, 1, ASK, 0, FINISH, 0);
        for (int run = 0; run < 24; run++) {
            x.begin(run % 16, run / 16);
        }
        return x;
    }

    private static void index(String what, Function<AskMachine, Object> call) {
        Twins.refused(what, RefusalsTest::town, IndexOutOfBoundsException.class, call);
    }

    private static void argument(String what, Function<AskMachine, Object> call) {
        Twins.refused(what, RefusalsTest::town, IllegalArgumentException.class, call);
    }

    private static void state(String what, Function<AskMachine, Object> call) {
        stateOf(RefusalsTest::town, what, call);
    }

    private static void stateOf(Supplier<AskMachine> made, String what, Function<AskMachine, Object> call) {
        Twins.refused(what, made, IllegalStateException.class, call);
    }

    private static void townIsWhatTheTestsTakeItFor() {
        AskMachine x = town();
        int[] states = {AskMachine.ASKS, AskMachine.ASKS, AskMachine.SAVED, AskMachine.DONE, AskMachine.SCREENED, AskMachine.WRONG, AskMachine.EXHAUSTED, AskMachine.LEFT};
        Checks.due("runs of the town", x.runs(), states.length);
        for (int run = 0; run < states.length; run++) {
            Checks.due("state of the town's run " + run, x.state(run), states[run]);
        }
        Checks.due("runs of the crowd", crowd().runs(), 24);
    }

    // "IndexOutOfBoundsException: there is no such form, question, respondent, panel, run or slot that a call is about"

    private static void noSuchForm() {
        for (int form : NO_FORMS) {
            index("write, form " + form, x -> x.write(form, ASK, 0));
            index("write, form ahead of the instruction, " + form, x -> x.write(form, 13, 0));
            index("write, form ahead of the argument, " + form, x -> x.write(form, ASK, 16));
            index("publish, form " + form, x -> x.publish(form));
            index("setFuel, form " + form, x -> x.setFuel(form, 9));
            index("setFuel, form ahead of the fuel, " + form, x -> x.setFuel(form, 0));
            index("fund, form " + form, x -> x.fund(form, 9));
            index("fund, form ahead of the cents, " + form, x -> x.fund(form, 0));
            index("setQuota, form " + form, x -> x.setQuota(form, 0, 9));
            index("setQuota, form ahead of the runs, " + form, x -> x.setQuota(form, 0, 21));
            index("begin, form " + form, x -> x.begin(9, form));
            index("budget, form " + form, x -> x.budget(form));
            index("done, form " + form, x -> x.done(form, 0));
        }
    }

    private static void noSuchPanelOrQuestion() {
        for (int panel : NO_PANELS) {
            index("setQuota, panel " + panel, x -> x.setQuota(0, panel, 9));
            index("setQuota, panel ahead of the runs, " + panel, x -> x.setQuota(0, panel, -1));
            index("done, panel " + panel, x -> x.done(0, panel));
        }
        for (int question : NO_QUESTIONS) {
            index("setPrice, question " + question, x -> x.setPrice(question, 9));
            index("setPrice, question ahead of the cents, " + question, x -> x.setPrice(question, 1001));
            index("reword, question " + question, x -> x.reword(question));
        }
    }

    private static void noSuchRespondent() {
        for (int respondent : NO_RESPONDENTS) {
            index("begin, respondent " + respondent, x -> x.begin(respondent, 0));
            index("begin, respondent ahead of no version, " + respondent, x -> x.begin(respondent, 3));
            index("reward, respondent " + respondent, x -> x.reward(respondent));
            Twins.refused("begin, respondent ahead of too many runs", RefusalsTest::crowd, IndexOutOfBoundsException.class, x -> x.begin(respondent, 1));
        }
        Twins.refused("begin, form ahead of too many runs", RefusalsTest::crowd, IndexOutOfBoundsException.class, x -> x.begin(15, 4));
    }

    private static void noSuchRun() {
        for (int run : NO_RUNS) {
            index("answer, run " + run, x -> x.answer(run, 1));
            index("answer, run ahead of the value, " + run, x -> x.answer(run, 10));
            index("save, run " + run, x -> Given.saved(x, run));
            index("wake, run " + run, x -> x.wake(run));
            index("leave, run " + run, x -> x.leave(run));
            index("state, run " + run, x -> x.state(run));
            index("question, run " + run, x -> x.question(run));
            index("version, run " + run, x -> x.version(run));
            index("fuel, run " + run, x -> x.fuel(run));
            index("fuelAgain, run " + run, x -> x.fuelAgain(run));
            index("slot, run " + run, x -> x.slot(run, 0));
            index("slotAgain, run " + run, x -> x.slotAgain(run, 0));
            index("depth, run " + run, x -> x.depth(run));
            index("answers, run " + run, x -> x.answers(run));
            index("answerAt, run " + run, x -> x.answerAt(run, 0));
        }
    }

    private static void noSuchSlotOrAnswer() {
        for (int slot : NO_SLOTS) {
            index("slot " + slot, x -> x.slot(ANSWERED, slot));
            index("slotAgain " + slot, x -> x.slotAgain(ANSWERED, slot));
        }
        for (int answer : new int[] {-1, 1, LEAST, MOST}) {
            index("answer " + answer + " of one", x -> x.answerAt(ANSWERED, answer));
        }
        for (int answer : new int[] {-1, 0, 1, LEAST, MOST}) {
            index("answer " + answer + " of none", x -> x.answerAt(ASKING, answer));
        }
        index("answer 2 of two", x -> x.answerAt(DONE, 2));
    }

    private static void noRunsAtAll() {
        for (int run : new int[] {-1, 0, 1}) {
            Twins.refused("state of a new object, run " + run, AskMachine::new, IndexOutOfBoundsException.class, x -> x.state(run));
            Twins.refused("answer of a new object, run " + run, AskMachine::new, IndexOutOfBoundsException.class, x -> x.answer(run, 10));
            Twins.refused("save of a new object, run " + run, AskMachine::new, IndexOutOfBoundsException.class, x -> Given.saved(x, run));
            Twins.refused("slotAgain of a new object, run " + run, AskMachine::new, IndexOutOfBoundsException.class, x -> x.slotAgain(run, 0));
            Twins.refused("answerAt of a new object, run " + run, AskMachine::new, IndexOutOfBoundsException.class, x -> x.answerAt(run, 0));
        }
    }

    // "IllegalArgumentException: another argument is out of its range"

    private static void instructionsAndArguments() {
        for (int instruction : new int[] {-1, 13, LEAST, MOST}) {
            argument("instruction " + instruction, x -> x.write(0, instruction, 0));
            argument("instruction ahead of the full draft, " + instruction, x -> x.write(3, instruction, 0));
        }
        for (int instruction = ASK; instruction <= FINISH; instruction++) {
            int i = instruction;
            for (int argument : new int[] {LEAST_ARGUMENT[i] - 1, MOST_ARGUMENT[i] + 1, LEAST, MOST}) {
                argument("instruction " + i + " with " + argument, x -> x.write(0, i, argument));
                argument("argument ahead of the full draft, " + i + " with " + argument, x -> x.write(3, i, argument));
            }
        }
    }

    private static void settings() {
        for (int fuel : new int[] {0, 201, -1, LEAST, MOST}) {
            argument("fuel " + fuel, x -> x.setFuel(0, fuel));
        }
        for (int cents : new int[] {0, 100001, -1, LEAST, MOST}) {
            argument("fund " + cents, x -> x.fund(0, cents));
        }
        for (int runs : new int[] {-1, 21, LEAST, MOST}) {
            argument("quota " + runs, x -> x.setQuota(0, 0, runs));
        }
        for (int cents : new int[] {-1, 1001, LEAST, MOST}) {
            argument("price " + cents, x -> x.setPrice(0, cents));
        }
    }

    private static void values() {
        for (int value : new int[] {-1, 10, LEAST, MOST}) {
            argument("value " + value, x -> x.answer(ASKING, value));
            for (int run = SAVED; run <= LEFT; run++) {
                int r = run;
                argument("value ahead of a run that does not ask, " + value, x -> x.answer(r, value));
            }
            Twins.refused("value ahead of the budget, " + value, () -> funded(9), IllegalArgumentException.class, x -> x.answer(0, value));
        }
    }

    // "IllegalStateException: as the method says"

    private static void drafts() {
        for (int instruction = ASK; instruction <= FINISH; instruction++) {
            int i = instruction;
            state("a 25th instruction, " + i, x -> x.write(3, i, MOST_ARGUMENT[i]));
        }
        state("publish an empty draft", x -> x.publish(2));
        state("publish a 7th version", x -> x.publish(1));
        stateOf(RefusalsTest::sixVersions, "publish an empty draft, and a 7th version", x -> x.publish(1));
        stateOf(AskMachine::new, "publish an empty draft of a new object", x -> x.publish(0));
    }

    private static AskMachine sixVersions() {
        AskMachine x = new AskMachine();
        for (int version = 0; version < 6; version++) {
            Given.publish(x, 1, ASK, version);
        }
        return x;
    }

    private static void begins() {
        state("begin without a version, but with a draft", x -> x.begin(9, 3));
        stateOf(AskMachine::new, "begin on a new object", x -> x.begin(0, 0));
        int[][] begun = {{0, 0}, {4, 0}, {1, 0}, {5, 0}, {2, 0}, {0, 1}, {0, 2}, {3, 0}};
        for (int[] again : begun) {
            state("begin again, respondent " + again[0] + ", form " + again[1], x -> x.begin(again[0], again[1]));
        }
        stateOf(RefusalsTest::crowd, "begin a 25th run", x -> x.begin(8, 1));
        stateOf(RefusalsTest::crowd, "begin a 25th run, again", x -> x.begin(0, 0));
        stateOf(RefusalsTest::crowd, "begin a 25th run, without a version", x -> x.begin(0, 3));
    }

    /** A run 0 that asks what costs 10. */
    private static AskMachine funded(int cents) {
        AskMachine x = Given.begun(ASK, 3, STORE, 0, FINISH, 0);
        x.setPrice(3, 10);
        x.fund(0, cents);
        x.fund(1, 1000);
        return x;
    }

    private static void answers() {
        for (int value = 0; value <= 9; value++) {
            int v = value;
            stateOf(() -> funded(9), "answer " + v + ", the budget is less by 1", x -> x.answer(0, v));
        }
        for (int run = SAVED; run <= LEFT; run++) {
            int r = run;
            state("answer one that does not ask, run " + r, x -> x.answer(r, 3));
        }
        Checks.due("the budget is just the price", funded(10).answer(0, 1), AskMachine.DONE);
    }

    private static void savesWakesAndLeaves() {
        for (int run = ASKING; run <= LEFT; run++) {
            int r = run;
            if (r >= SAVED) {
                state("save one that does not ask, run " + r, x -> Given.saved(x, r));
            }
            if (r != SAVED) {
                state("wake one that is not saved, run " + r, x -> x.wake(r));
            }
            if (r > SAVED) {
                state("leave one that has ended, run " + r, x -> x.leave(r));
            }
        }
    }
}
