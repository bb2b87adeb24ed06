import java.util.ArrayList;

/** A survey tool whose questions run on a small machine. */
public final class AskMachine {
    public static final int NONE = -1;
    public static final int ASK = 0, PUSH = 1, LOAD = 2, STORE = 3, ADD = 4, MINUS = 5, LESS = 6, EQUAL = 7, JUMP = 8, ZERO = 9, PAY = 10, GATE = 11, FINISH = 12;
    public static final int ASKS = 0, SAVED = 1, DONE = 2, SCREENED = 3, EXHAUSTED = 4, WRONG = 5, LEFT = 6;

    private static final int FORMS = 4;
    private static final int QUESTIONS = 16;
    private static final int RESPONDENTS = 16;
    private static final int PANELS = 4;
    private static final int SLOTS = 8;
    private static final int MOST_STACKED = 8;
    private static final int MOST_INSTRUCTIONS = 24;
    private static final int MOST_VERSIONS = 6;
    private static final int MOST_RUNS = 24;
    private static final int MOST_FUEL = 200;
    private static final int FIRST_FUEL = 60;
    private static final int MOST_FUNDED = 100000;
    private static final int MOST_QUOTA = 20;
    private static final int MOST_PRICE = 1000;
    private static final int MOST_VALUE = 9;
    private static final int MOST_NUMBER = 9999;
    private static final int ASK_COST = 3;
    private static final int COST = 1;

    /** An object is used for 512 calls, so no run can get more answers; what would go beyond is refused. */
    private static final int MOST_ANSWERS = 512;

    /** What a machine is between two instructions; no run ever shows it. */
    private static final int GOING = 7;

    /** More gates than any fuel pays for. */
    private static final int EVERY_GATE = 1000;

    private static final int[] LEAST_ARGUMENT = {0, -99, 0, 0, 0, 0, 0, 0, 0, 0, 0, 0, 0};
    private static final int[] MOST_ARGUMENT = {15, 99, 7, 7, 0, 0, 0, 0, 24, 24, 500, 0, 0};

    private final Form[] forms = new Form[FORMS];
    private final ArrayList<Run> begun = new ArrayList<Run>();
    private final int[] prices = new int[QUESTIONS];
    private final int[] wordings = new int[QUESTIONS];
    private final int[] rewards = new int[RESPONDENTS];
    private final Machine spare = new Machine();
    private int repaidInAll;

    public AskMachine() {
        for (int form = 0; form < FORMS; form++) {
            forms[form] = new Form();
        }
    }

    // ---- forms

    public int write(int form, int instruction, int argument) throws IndexOutOfBoundsException, IllegalArgumentException, IllegalStateException {
        Form written = formAt(form);
        if (!isWithin(instruction, ASK, FINISH)) {
            throw new IllegalArgumentException("no such instruction");
        }
        if (!isWithin(argument, at(LEAST_ARGUMENT, instruction), at(MOST_ARGUMENT, instruction))) {
            throw new IllegalArgumentException("argument out of range");
        }
        if (written.draft.isFull()) {
            throw new IllegalStateException("the draft is full");
        }
        written.draft.append(instruction, argument);
        return written.draft.length;
    }

    public int publish(int form) throws IndexOutOfBoundsException, IllegalStateException {
        Form published = formAt(form);
        if (published.draft.length == 0 || published.versions >= MOST_VERSIONS) {
            throw new IllegalStateException("an empty draft, or no more versions");
        }
        published.makeVersion();
        return published.newestNumber();
    }

    public int setFuel(int form, int fuel) throws IndexOutOfBoundsException, IllegalArgumentException {
        Form fuelled = formAt(form);
        if (!isWithin(fuel, 1, MOST_FUEL)) {
            throw new IllegalArgumentException("fuel out of range");
        }
        int before = fuelled.fuel;
        fuelled.fuel = fuel;
        return before;
    }

    public int fund(int form, int cents) throws IndexOutOfBoundsException, IllegalArgumentException {
        Form funded = formAt(form);
        if (!isWithin(cents, 1, MOST_FUNDED)) {
            throw new IllegalArgumentException("cents out of range");
        }
        funded.budget += cents;
        return funded.budget;
    }

    public int setQuota(int form, int panel, int runs) throws IndexOutOfBoundsException, IllegalArgumentException {
        Form limited = formAt(form);
        if (!isWithin(panel, 0, PANELS - 1)) {
            throw new IndexOutOfBoundsException("no such panel");
        }
        if (!isWithin(runs, 0, MOST_QUOTA)) {
            throw new IllegalArgumentException("quota out of range");
        }
        int before = limited.quotas[panel];
        limited.quotas[panel] = runs;
        return before;
    }

    public int setPrice(int question, int cents) throws IndexOutOfBoundsException, IllegalArgumentException {
        if (!isWithin(question, 0, QUESTIONS - 1)) {
            throw new IndexOutOfBoundsException("no such question");
        }
        if (!isWithin(cents, 0, MOST_PRICE)) {
            throw new IllegalArgumentException("price out of range");
        }
        int before = prices[question];
        prices[question] = cents;
        return before;
    }

    public int reword(int question) throws IndexOutOfBoundsException {
        if (!isWithin(question, 0, QUESTIONS - 1)) {
            throw new IndexOutOfBoundsException("no such question");
        }
        wordings[question]++;
        return wordings[question];
    }

    // ---- runs

    public int begin(int respondent, int form) throws IndexOutOfBoundsException, IllegalStateException {
        if (!isWithin(respondent, 0, RESPONDENTS - 1)) {
            throw new IndexOutOfBoundsException("no such respondent");
        }
        Form asked = formAt(form);
        if (asked.versions == 0 || hasBegun(respondent, asked) || begun.size() >= MOST_RUNS) {
            throw new IllegalStateException("no version, a run already, or no more runs");
        }
        Run run = new Run(respondent, asked);
        begun.add(run);
        startOver(run);
        goOn(run);
        return begun.size() - 1;
    }

    public int answer(int run, int value) throws IndexOutOfBoundsException, IllegalArgumentException, IllegalStateException {
        Run asking = runAt(run);
        if (!isWithin(value, 0, MOST_VALUE)) {
            throw new IllegalArgumentException("value out of range");
        }
        if (asking.state != ASKS || asking.given.size() >= MOST_ANSWERS) {
            throw new IllegalStateException("the run does not ask");
        }
        int price = at(prices, asking.machine.question);
        if (asking.form.budget < price) {
            throw new IllegalStateException("the budget is less than the price");
        }
        asking.keepAnswer(value);
        asking.paid += price;
        payRespondent(asking, price);
        asking.machine.takeAnswer(value);
        goOn(asking);
        return asking.state;
    }

    public void save(int run) throws IndexOutOfBoundsException, IllegalStateException {
        Run asking = runAt(run);
        if (asking.state != ASKS) {
            throw new IllegalStateException("the run does not ask");
        }
        asking.state = SAVED;
    }

    public boolean wake(int run) throws IndexOutOfBoundsException, IllegalStateException {
        Run woken = runAt(run);
        if (woken.state != SAVED) {
            throw new IllegalStateException("the run is not saved");
        }
        if (!isOutdated(woken)) {
            woken.state = ASKS;
            return false;
        }
        startOver(woken);
        goOn(woken);
        return true;
    }

    public int leave(int run) throws IndexOutOfBoundsException, IllegalStateException {
        Run left = runAt(run);
        if (left.state != ASKS && left.state != SAVED) {
            throw new IllegalStateException("the run has ended");
        }
        left.state = LEFT;
        return left.paid;
    }

    public int runs() {
        return begun.size();
    }

    public int state(int run) throws IndexOutOfBoundsException {
        return runAt(run).state;
    }

    public int question(int run) throws IndexOutOfBoundsException {
        Run asked = runAt(run);
        boolean waits = asked.state == ASKS || asked.state == SAVED || asked.state == LEFT;
        return waits ? asked.machine.question : NONE;
    }

    public int version(int run) throws IndexOutOfBoundsException {
        return runAt(run).version;
    }

    public int fuel(int run) throws IndexOutOfBoundsException {
        return runAt(run).machine.fuel;
    }

    public int fuelAgain(int run) throws IndexOutOfBoundsException {
        doAgain(runAt(run));
        return spare.fuel;
    }

    public int slot(int run, int slot) throws IndexOutOfBoundsException {
        Run asked = runAt(run);
        if (!isWithin(slot, 0, SLOTS - 1)) {
            throw new IndexOutOfBoundsException("no such slot");
        }
        return asked.machine.slots[slot];
    }

    public int slotAgain(int run, int slot) throws IndexOutOfBoundsException {
        Run asked = runAt(run);
        if (!isWithin(slot, 0, SLOTS - 1)) {
            throw new IndexOutOfBoundsException("no such slot");
        }
        doAgain(asked);
        return spare.slots[slot];
    }

    public int depth(int run) throws IndexOutOfBoundsException {
        return runAt(run).machine.height;
    }

    public int answers(int run) throws IndexOutOfBoundsException {
        return runAt(run).given.size();
    }

    public int answerAt(int run, int answer) throws IndexOutOfBoundsException {
        Run asked = runAt(run);
        if (!isWithin(answer, 0, asked.given.size() - 1)) {
            throw new IndexOutOfBoundsException("no such answer");
        }
        Answer shown = asked.given.get(answer);
        return 1000 * shown.wording + 10 * shown.question + shown.value;
    }

    // ---- money and quotas

    public int reward(int respondent) throws IndexOutOfBoundsException {
        if (!isWithin(respondent, 0, RESPONDENTS - 1)) {
            throw new IndexOutOfBoundsException("no such respondent");
        }
        return rewards[respondent];
    }

    public int budget(int form) throws IndexOutOfBoundsException {
        return formAt(form).budget;
    }

    public int repaid() {
        return repaidInAll;
    }

    public int done(int form, int panel) throws IndexOutOfBoundsException {
        Form asked = formAt(form);
        if (!isWithin(panel, 0, PANELS - 1)) {
            throw new IndexOutOfBoundsException("no such panel");
        }
        return asked.doneRuns[panel];
    }

    // ---- what the calls share

    private Form formAt(int form) {
        if (!isWithin(form, 0, FORMS - 1)) {
            throw new IndexOutOfBoundsException("no such form");
        }
        return forms[form];
    }

    private Run runAt(int run) {
        if (!isWithin(run, 0, begun.size() - 1)) {
            throw new IndexOutOfBoundsException("no such run");
        }
        return begun.get(run);
    }

    private boolean hasBegun(int respondent, Form form) {
        for (int i = 0; i < begun.size(); i++) {
            Run run = begun.get(i);
            if (run.respondent == respondent && run.form == form) {
                return true;
            }
        }
        return false;
    }

    private boolean isOutdated(Run run) {
        if (run.version < run.form.newestNumber()) {
            return true;
        }
        for (int i = 0; i < run.given.size(); i++) {
            Answer answer = run.given.get(i);
            boolean counts = answer.wording == at(run.wordings, answer.question);
            if (counts && answer.wording != at(wordings, answer.question)) {
                return true;
            }
        }
        return false;
    }

    private void startOver(Run run) {
        run.takeNewest(wordings);
        run.machine.reset(run.fuelAtStart);
    }

    private void goOn(Run run) {
        // No other run is DONE meanwhile, so what the first gate finds holds for the later ones.
        run.machine.goOn(run, run.form.isFullFor(run.panel) ? 0 : EVERY_GATE);
        run.state = run.machine.state;
        if (run.state == DONE) {
            addTo(run.form.doneRuns, run.panel, 1);
            payRespondent(run, Math.min(run.machine.bonus, run.form.budget));
        } else if (run.state == WRONG || run.state == EXHAUSTED) {
            run.form.budget += run.paid;
            repaidInAll += run.paid;
        }
    }

    /** Does the run again on the spare machine, which gets by as many gates as the run did. */
    private void doAgain(Run run) {
        spare.reset(run.fuelAtStart);
        spare.goOn(run, run.machine.gatesPassed);
    }

    private void payRespondent(Run run, int cents) {
        run.form.budget -= cents;
        addTo(rewards, run.respondent, cents);
    }

    private static boolean isWithin(int number, int least, int most) {
        return number >= least && number <= most;
    }

    // Stored indexes are in range already; the rule that each is looked at ahead of its use is kept here.
    private static int at(int[] row, int index) {
        return index >= 0 && index < row.length ? row[index] : 0;
    }

    private static void addTo(int[] row, int index, int more) {
        if (index >= 0 && index < row.length) {
            row[index] += more;
        }
    }

    /** A draft, or a version: once it is published, nothing is appended any more. */
    private static final class Code {
        final int[] instructions = new int[MOST_INSTRUCTIONS];
        final int[] arguments = new int[MOST_INSTRUCTIONS];
        int length;

        boolean isFull() {
            return length >= MOST_INSTRUCTIONS;
        }

        void append(int instruction, int argument) {
            if (isFull()) {
                return;
            }
            instructions[length] = instruction;
            arguments[length] = argument;
            length++;
        }
    }

    private static final class Form {
        Code draft = new Code();
        /** Older versions are kept by the runs that have them. */
        Code newest = new Code();
        int versions;
        int fuel = FIRST_FUEL;
        int budget;
        final int[] quotas = new int[PANELS];
        final int[] doneRuns = new int[PANELS];

        Form() {
            for (int panel = 0; panel < PANELS; panel++) {
                quotas[panel] = MOST_QUOTA;
            }
        }

        void makeVersion() {
            newest = draft;
            draft = new Code();
            versions++;
        }

        int newestNumber() {
            return versions - 1;
        }

        boolean isFullFor(int panel) {
            return at(doneRuns, panel) >= at(quotas, panel);
        }
    }

    private static final class Answer {
        final int question;
        final int wording;
        final int value;

        Answer(int question, int wording, int value) {
            this.question = question;
            this.wording = wording;
            this.value = value;
        }
    }

    private static final class Run {
        final int respondent;
        final int panel;
        final Form form;
        final Machine machine = new Machine();
        final ArrayList<Answer> given = new ArrayList<Answer>();
        final int[] wordings = new int[QUESTIONS];
        Code code;
        int version;
        int fuelAtStart;
        int state;
        int paid;

        Run(int respondent, Form form) {
            this.respondent = respondent;
            this.panel = respondent % PANELS;
            this.form = form;
            this.code = form.newest;
        }

        void takeNewest(int[] wordingsNow) {
            code = form.newest;
            version = form.newestNumber();
            fuelAtStart = form.fuel;
            System.arraycopy(wordingsNow, 0, wordings, 0, QUESTIONS);
        }

        void keepAnswer(int value) {
            int question = machine.question;
            given.add(new Answer(question, at(wordings, question), value));
        }

        /** The value of the n-th answer to the question with the wording that the run has of it, or NONE. */
        int nthValue(int question, int n) {
            int wording = at(wordings, question);
            int found = 0;
            for (int i = 0; i < given.size(); i++) {
                Answer answer = given.get(i);
                if (answer.question == question && answer.wording == wording) {
                    found++;
                    if (found == n) {
                        return answer.value;
                    }
                }
            }
            return NONE;
        }
    }

    /** The machine alone: it knows nothing of money, and of quotas only how many gates it gets by. */
    private static final class Machine {
        final int[] stack = new int[MOST_STACKED];
        final int[] slots = new int[SLOTS];
        final int[] timesAsked = new int[QUESTIONS];
        int height;
        int place;
        int fuel;
        int bonus;
        int state;
        int question;
        int gatesPassed;
        int gatesOpen;

        void reset(int fuelAtStart) {
            for (int i = 0; i < SLOTS; i++) {
                slots[i] = 0;
            }
            for (int i = 0; i < QUESTIONS; i++) {
                timesAsked[i] = 0;
            }
            height = 0;
            place = 0;
            fuel = fuelAtStart;
            bonus = 0;
            state = GOING;
            gatesPassed = 0;
        }

        void takeAnswer(int value) {
            state = GOING;
            put(value);
        }

        void goOn(Run run, int gates) {
            gatesOpen = gates;
            // Each step but the last costs fuel, so it never takes more.
            for (int step = 0; step <= MOST_FUEL && state == GOING; step++) {
                int next = payForNext(run.code);
                if (next != NONE) {
                    perform(run, at(run.code.instructions, next), at(run.code.arguments, next));
                }
            }
        }

        /** The place of the instruction that is to be done, or NONE if the run has ended ahead of it. */
        private int payForNext(Code code) {
            if (!isWithin(place, 0, code.length - 1)) {
                state = WRONG;
                return NONE;
            }
            int cost = at(code.instructions, place) == ASK ? ASK_COST : COST;
            if (fuel < cost) {
                state = EXHAUSTED;
                return NONE;
            }
            fuel -= cost;
            place++;
            return place - 1;
        }

        private void perform(Run run, int instruction, int argument) {
            switch (instruction) {
                case ASK:
                    ask(run, argument);
                    break;
                case PUSH:
                    put(argument);
                    break;
                case LOAD:
                    put(at(slots, argument));
                    break;
                case STORE:
                    store(argument);
                    break;
                case JUMP:
                    place = argument;
                    break;
                case ZERO:
                    jumpIfZero(argument);
                    break;
                case PAY:
                    bonus += argument;
                    break;
                case GATE:
                    state = passesGate() ? GOING : SCREENED;
                    break;
                case FINISH:
                    state = passesGate() ? DONE : SCREENED;
                    break;
                default:
                    combine(instruction);
                    break;
            }
        }

        private void ask(Run run, int asked) {
            addTo(timesAsked, asked, 1);
            int value = run.nthValue(asked, at(timesAsked, asked));
            if (value == NONE) {
                question = asked;
                state = ASKS;
            } else {
                put(value);
            }
        }

        private void store(int slot) {
            int number = take();
            if (state == GOING && isWithin(slot, 0, SLOTS - 1)) {
                slots[slot] = number;
            }
        }

        private void jumpIfZero(int target) {
            int number = take();
            if (state == GOING && number == 0) {
                place = target;
            }
        }

        private void combine(int instruction) {
            int b = take();
            int a = take();
            if (state == GOING) {
                put(combined(instruction, a, b));
            }
        }

        private static int combined(int instruction, int a, int b) {
            switch (instruction) {
                case ADD:
                    return held(a + b);
                case MINUS:
                    return held(a - b);
                case LESS:
                    return a < b ? 1 : 0;
                default:
                    return a == b ? 1 : 0;
            }
        }

        private static int held(int number) {
            return Math.max(-MOST_NUMBER, Math.min(MOST_NUMBER, number));
        }

        private boolean passesGate() {
            if (gatesOpen <= 0) {
                return false;
            }
            gatesOpen--;
            gatesPassed++;
            return true;
        }

        private void put(int number) {
            if (!isWithin(height, 0, MOST_STACKED - 1)) {
                state = WRONG;
                return;
            }
            stack[height] = number;
            height++;
        }

        private int take() {
            if (!isWithin(height, 1, MOST_STACKED)) {
                state = WRONG;
                return 0;
            }
            height--;
            return stack[height];
        }
    }
}
