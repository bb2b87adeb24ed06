/** Each promise of the document: ordinary inputs, its edges, and wrong inputs. */
public final class PromisesTest {
    private static final int ASK = AskMachine.ASK, PUSH = AskMachine.PUSH, LOAD = AskMachine.LOAD, STORE = AskMachine.STORE;
    private static final int ADD = AskMachine.ADD, MINUS = AskMachine.MINUS, LESS = AskMachine.LESS, EQUAL = AskMachine.EQUAL;
    private static final int JUMP = AskMachine.JUMP, ZERO = AskMachine.ZERO, PAY = AskMachine.PAY, GATE = AskMachine.GATE;
    private static final int FINISH = AskMachine.FINISH;
    private static final int ASKS = AskMachine.ASKS, SAVED = AskMachine.SAVED, DONE = AskMachine.DONE, SCREENED = AskMachine.SCREENED;
    private static final int EXHAUSTED = AskMachine.EXHAUSTED, WRONG = AskMachine.WRONG, LEFT = AskMachine.LEFT;
    private static final int NONE = AskMachine.NONE;

    public static void main(String[] args) {
        newObject();
        write();
        publish();
        setFuel();
        fund();
        setQuota();
        setPrice();
        reword();
        begin();
        answer();
        bonus();
        repaying();
        save();
        wake();
        wakeAgain();
        leave();
        runsAndStates();
        question();
        version();
        fuelAndAgain();
        slots();
        stack();
        arithmetic();
        jumps();
        asking();
        answersOfARun();
        gates();
        gatesAgain();
        money();
        Checks.end();
    }

    private static void due(String what, Object got, Object want) {
        Checks.due(what, got, want);
    }

    private static void newObject() {
        AskMachine x = new AskMachine();
        due("runs at first", x.runs(), 0);
        due("repaid at first", x.repaid(), 0);
        for (int form = 0; form < 4; form++) {
            int f = form;
            due("budget at first", x.budget(form), 0);
            due("fuel at first", x.setFuel(form, 60), 60);
            Checks.state("no version at first", x, () -> x.begin(0, f));
            Checks.state("an empty draft at first", x, () -> x.publish(f));
            for (int panel = 0; panel < 4; panel++) {
                due("quota at first", x.setQuota(form, panel, 20), 20);
                due("done at first", x.done(form, panel), 0);
            }
        }
        for (int question = 0; question < 16; question++) {
            due("price at first", x.setPrice(question, 0), 0);
            due("wording at first", x.reword(question), 1);
            due("reward at first", x.reward(question), 0);
        }
    }

    private static void write() {
        int[] least = {0, -99, 0, 0, 0, 0, 0, 0, 0, 0, 0, 0, 0};
        int[] most = {15, 99, 7, 7, 0, 0, 0, 0, 24, 24, 500, 0, 0};
        AskMachine x = new AskMachine();
        for (int instruction = ASK; instruction <= FINISH; instruction++) {
            int i = instruction;
            Checks.argument("write below " + i, x, () -> x.write(0, i, least[i] - 1));
            Checks.argument("write above " + i, x, () -> x.write(0, i, most[i] + 1));
        }
        for (int instruction = ASK; instruction <= 11; instruction++) {
            due("write least", x.write(0, instruction, least[instruction]), 2 * instruction + 1);
            due("write most", x.write(0, instruction, most[instruction]), 2 * instruction + 2);
        }
        Checks.state("write a 25th", x, () -> x.write(0, FINISH, 0));
        Checks.argument("a wrong argument ahead of a full draft", x, () -> x.write(0, FINISH, 1));
        due("another form's draft", x.write(3, FINISH, 0), 1);
        due("publish 24", x.publish(0), 0);
        due("the draft is empty then", x.write(0, FINISH, 0), 1);
        Checks.index("write form 4", x, () -> x.write(4, -1, 99));
        Checks.index("write form -1", x, () -> x.write(-1, FINISH, 0));
        Checks.argument("write instruction -1", x, () -> x.write(0, -1, 0));
        Checks.argument("write instruction 13", x, () -> x.write(0, 13, 0));
        Checks.argument("write instruction big", x, () -> x.write(0, Integer.MAX_VALUE, 0));
        due("nothing was written by these", x.write(0, FINISH, 0), 2);
    }

    private static void publish() {
        AskMachine x = new AskMachine();
        Checks.index("publish form 4", x, () -> x.publish(4));
        Checks.index("publish form -1", x, () -> x.publish(-1));
        for (int version = 0; version < 6; version++) {
            due("publish", Given.publish(x, 1, FINISH, 0), version);
            Checks.state("publish an empty draft", x, () -> x.publish(1));
        }
        due("write behind 6 versions", x.write(1, FINISH, 0), 1);
        Checks.state("publish a 7th", x, () -> x.publish(1));
        due("its draft stays", x.write(1, FINISH, 0), 2);
        due("another form", Given.publish(x, 2, FINISH, 0), 0);
    }

    private static void setFuel() {
        AskMachine x = Given.with(JUMP, 0);
        Checks.index("fuel form 4", x, () -> x.setFuel(4, 0));
        Checks.index("fuel form -1", x, () -> x.setFuel(-1, 5));
        Checks.argument("fuel 0", x, () -> x.setFuel(0, 0));
        Checks.argument("fuel 201", x, () -> x.setFuel(0, 201));
        Checks.argument("fuel -1", x, () -> x.setFuel(0, -1));
        due("fuel before", x.setFuel(0, 1), 60);
        due("fuel before, again", x.setFuel(0, 200), 1);
        due("fuel before, of another", x.setFuel(1, 200), 60);
        due("fuel before, last", x.setFuel(0, 200), 200);
        x.begin(0, 0);
        due("a loop of 200 ends", x.state(0), EXHAUSTED);
        due("with no fuel", x.fuel(0), 0);
    }

    private static void fund() {
        AskMachine x = new AskMachine();
        due("fund", x.fund(3, 1), 1);
        due("fund more", x.fund(3, 100000), 100001);
        due("fund another", x.fund(0, 7), 7);
        due("budget", x.budget(3), 100001);
        Checks.index("fund form 4", x, () -> x.fund(4, 0));
        Checks.index("fund form -1", x, () -> x.fund(-1, 1));
        Checks.argument("fund 0", x, () -> x.fund(0, 0));
        Checks.argument("fund -5", x, () -> x.fund(0, -5));
        Checks.argument("fund 100001", x, () -> x.fund(0, 100001));
    }

    private static void setQuota() {
        AskMachine x = Given.with(FINISH, 0);
        Checks.index("quota form 4", x, () -> x.setQuota(4, 0, 21));
        Checks.index("quota form -1", x, () -> x.setQuota(-1, 0, 1));
        Checks.index("quota panel 4", x, () -> x.setQuota(0, 4, 21));
        Checks.index("quota panel -1", x, () -> x.setQuota(0, -1, 1));
        Checks.argument("quota 21", x, () -> x.setQuota(0, 0, 21));
        Checks.argument("quota -1", x, () -> x.setQuota(0, 0, -1));
        due("quota before", x.setQuota(0, 2, 0), 20);
        due("quota of another panel", x.setQuota(0, 1, 20), 20);
        due("quota of another form", x.setQuota(1, 2, 20), 20);
        due("quota before, again", x.setQuota(0, 2, 1), 0);
        x.begin(2, 0);
        x.begin(6, 0);
        due("one under the quota", x.state(0), DONE);
        due("one at the quota", x.state(1), SCREENED);
        x.setQuota(0, 2, 0);
        x.begin(10, 0);
        due("one above the quota", x.state(2), SCREENED);
        x.begin(1, 0);
        due("one of another panel", x.state(3), DONE);
    }

    private static void setPrice() {
        AskMachine x = Given.begun(ASK, 15, ASK, 15, FINISH, 0);
        x.fund(0, 3000);
        Checks.index("price question 16", x, () -> x.setPrice(16, 1001));
        Checks.index("price question -1", x, () -> x.setPrice(-1, 0));
        Checks.argument("price -1", x, () -> x.setPrice(15, -1));
        Checks.argument("price 1001", x, () -> x.setPrice(15, 1001));
        due("price before", x.setPrice(15, 1000), 0);
        due("price of another", x.setPrice(14, 1000), 0);
        x.answer(0, 1);
        due("the price of now is paid", x.reward(0), 1000);
        due("price before, again", x.setPrice(15, 5), 1000);
        x.answer(0, 1);
        due("the new price is paid", x.reward(0), 1005);
        due("from the budget", x.budget(0), 1995);
    }

    private static void reword() {
        AskMachine x = new AskMachine();
        Checks.index("reword 16", x, () -> x.reword(16));
        Checks.index("reword -1", x, () -> x.reword(-1));
        due("reword", x.reword(15), 1);
        due("reword again", x.reword(15), 2);
        due("reword another", x.reword(0), 1);
    }

    private static void begin() {
        AskMachine x = Given.with(ASK, 0);
        Checks.index("begin respondent 16", x, () -> x.begin(16, 1));
        Checks.index("begin respondent -1", x, () -> x.begin(-1, 0));
        Checks.index("begin form 4", x, () -> x.begin(0, 4));
        Checks.index("begin form -1", x, () -> x.begin(0, -1));
        Checks.state("begin without a version", x, () -> x.begin(0, 1));
        due("the first run", x.begin(0, 0), 0);
        Checks.state("begin while it asks", x, () -> x.begin(0, 0));
        x.save(0);
        Checks.state("begin while it is saved", x, () -> x.begin(0, 0));
        x.leave(0);
        Checks.state("begin when it was left", x, () -> x.begin(0, 0));
        Given.publish(x, 1, ADD, 0);
        due("the respondent's run of another form", x.begin(0, 1), 1);
        due("it goes on at once", x.state(1), WRONG);
        Checks.state("begin when it has ended", x, () -> x.begin(0, 1));
        for (int respondent = 1; respondent < 16; respondent++) {
            due("the next run", x.begin(respondent, 0), respondent + 1);
        }
        for (int respondent = 1; respondent < 8; respondent++) {
            due("the next run", x.begin(respondent, 1), respondent + 16);
        }
        due("runs", x.runs(), 24);
        Checks.state("begin a 25th", x, () -> x.begin(8, 1));
        Checks.index("no such form ahead of too many runs", x, () -> x.begin(8, 4));
    }

    private static void answer() {
        AskMachine x = Given.begun(ASK, 3, STORE, 1, ASK, 4, FINISH, 0);
        x.setPrice(3, 10);
        x.setPrice(4, 10);
        Checks.index("answer run 1", x, () -> x.answer(1, 10));
        Checks.index("answer run -1", x, () -> x.answer(-1, 0));
        Checks.argument("answer 10, ahead of the budget", x, () -> x.answer(0, 10));
        Checks.argument("answer -1", x, () -> x.answer(0, -1));
        Checks.state("answer without a budget", x, () -> x.answer(0, 9));
        x.fund(0, 9);
        Checks.state("answer with a budget less by 1", x, () -> x.answer(0, 9));
        x.fund(0, 1);
        due("answer with just the budget", x.answer(0, 9), ASKS);
        due("paid", x.reward(0), 10);
        due("budget", x.budget(0), 0);
        due("stored behind the ASK", x.slot(0, 1), 9);
        Checks.state("the next without a budget", x, () -> x.answer(0, 0));
        x.setPrice(4, 0);
        x.save(0);
        Checks.state("answer a saved one", x, () -> x.answer(0, 0));
        Checks.argument("a wrong value ahead of that", x, () -> x.answer(0, 11));
        x.wake(0);
        due("answer without a price", x.answer(0, 0), DONE);
        Checks.state("answer an ended one", x, () -> x.answer(0, 0));
        x.begin(1, 0);
        x.leave(1);
        Checks.state("answer a left one", x, () -> x.answer(1, 0));
    }

    private static void bonus() {
        AskMachine x = Given.with(PAY, 500, ASK, 0, PAY, 7, FINISH, 0);
        x.fund(0, 600);
        x.setPrice(0, 10);
        x.begin(4, 0);
        due("no bonus ahead of the end", x.reward(4), 0);
        due("answer", x.answer(0, 1), DONE);
        due("price and bonus", x.reward(4), 517);
        due("from the budget", x.budget(0), 83);
        x.begin(8, 0);
        x.answer(1, 1);
        due("at most what is left", x.reward(8), 83);
        due("nothing is left", x.budget(0), 0);
        x.setPrice(0, 0);
        x.begin(12, 0);
        due("done without a budget", x.answer(2, 1), DONE);
        due("gets nothing", x.reward(12), 0);
        x.fund(0, 1000);
        x.setQuota(0, 0, 3);
        x.begin(0, 0);
        due("barred at its FINISH", x.answer(3, 1), SCREENED);
        due("gets no bonus", x.reward(0), 0);
        due("the budget stays", x.budget(0), 1000);
        due("not counted", x.done(0, 0), 3);
    }

    private static void repaying() {
        AskMachine x = Given.with(ASK, 0, ASK, 1, ZERO, 0, ADD, 0);
        x.fund(0, 1000);
        x.setPrice(0, 50);
        x.setPrice(1, 30);
        x.setFuel(0, 12);
        x.begin(0, 0);
        x.answer(0, 3);
        x.answer(0, 1);
        due("wrong", x.state(0), WRONG);
        due("its answers are repaid", x.repaid(), 80);
        due("to the budget", x.budget(0), 1000);
        due("the respondent keeps them", x.reward(0), 80);
        x.begin(1, 0);
        x.answer(1, 3);
        x.setPrice(0, 1);
        x.answer(1, 0);
        x.answer(1, 3);
        due("exhausted at its second round", x.state(1), EXHAUSTED);
        due("repaid at the prices that were paid", x.repaid(), 161);
        due("budget", x.budget(0), 1000);
        AskMachine y = Given.with(PAY, 9, ASK, 0, ASK, 1, FINISH, 0);
        y.fund(0, 100);
        y.setPrice(0, 20);
        y.begin(0, 0);
        y.answer(0, 1);
        y.save(0);
        y.reword(0);
        Given.publish(y, 0, ASK, 0, JUMP, 24);
        due("done again", y.wake(0), true);
        due("answer anew", y.answer(0, 1), WRONG);
        due("answers with older wordings are repaid as well", y.repaid(), 40);
        due("budget then", y.budget(0), 100);
        due("reward then", y.reward(0), 40);
        y.begin(1, 0);
        y.leave(1);
        due("nothing is repaid for a left one", y.repaid(), 40);
    }

    private static void save() {
        AskMachine x = Given.begun(ASK, 2, FINISH, 0);
        Checks.index("save run 1", x, () -> Given.saved(x, 1));
        Checks.index("save run -1", x, () -> Given.saved(x, -1));
        x.save(0);
        due("saved", x.state(0), SAVED);
        due("its question", x.question(0), 2);
        Checks.state("save a saved one", x, () -> Given.saved(x, 0));
        x.wake(0);
        x.answer(0, 1);
        Checks.state("save an ended one", x, () -> Given.saved(x, 0));
        x.begin(1, 0);
        x.leave(1);
        Checks.state("save a left one", x, () -> Given.saved(x, 1));
    }

    private static void wake() {
        AskMachine x = Given.begun(PAY, 5, ASK, 0, STORE, 0, ASK, 1, STORE, 1, FINISH, 0);
        Checks.index("wake run 1", x, () -> x.wake(1));
        Checks.index("wake run -1", x, () -> x.wake(-1));
        Checks.state("wake one that asks", x, () -> x.wake(0));
        x.answer(0, 6);
        x.save(0);
        String before = Checks.shown(x, 0).replace("state 1", "state 0");
        x.setFuel(0, 100);
        x.reword(1);
        due("woken as it was", x.wake(0), false);
        due("it asks as it did", Checks.shown(x, 0), before);
        due("the answer has the run's wording", x.answer(0, 4), DONE);
        due("and not that of now", x.answerAt(0, 1), 14);
        Checks.state("wake an ended one", x, () -> x.wake(0));
        x.begin(1, 0);
        x.leave(1);
        Checks.state("wake a left one", x, () -> x.wake(1));
        x.begin(2, 0);
        x.save(2);
        x.reword(0);
        due("a new wording without an answer to it", x.wake(2), false);
        x.answer(2, 1);
        due("the answer has the wording of its begin", x.answerAt(2, 0), 1);
        x.save(2);
        due("done again for the answer", x.wake(2), true);
        due("asks it anew", x.question(2), 0);
        x.answer(2, 2);
        due("with the wording of now", x.answerAt(2, 1), 1002);
        x.save(2);
        x.reword(1);
        due("older answers alone don't matter", x.wake(2), false);
    }

    private static void wakeAgain() {
        AskMachine x = Given.begun(PAY, 50, ASK, 0, STORE, 0, PUSH, 4, ASK, 1, FINISH, 0);
        x.fund(0, 1000);
        x.setPrice(0, 10);
        x.answer(0, 6);
        x.save(0);
        Given.publish(x, 0, PAY, 1, LOAD, 0, STORE, 3, ASK, 0, STORE, 1, PUSH, 1, PUSH, 2, ASK, 1, FINISH, 0);
        due("a draft alone is no version", x.write(0, FINISH, 0), 1);
        x.setFuel(0, 40);
        due("done again", x.wake(0), true);
        due("version", x.version(0), 1);
        due("fuel of now", x.fuel(0), 40 - 6 - 6);
        due("fuel again", x.fuelAgain(0), 28);
        due("an empty stack", x.depth(0), 2);
        due("empty slots", x.slot(0, 0), 0);
        due("nothing from them", x.slot(0, 3), 0);
        due("the answer stays", x.slot(0, 1), 6);
        due("and is not paid again", x.reward(0), 10);
        due("answers", x.answers(0), 1);
        due("answer", x.answer(0, 1), DONE);
        due("no bonus of before", x.reward(0), 11);
        AskMachine y = Given.begun(ASK, 0, ASK, 0, ASK, 1, FINISH, 0);
        y.answer(0, 3);
        y.answer(0, 4);
        y.save(0);
        Given.publish(y, 0, ASK, 0, STORE, 0, ASK, 0, STORE, 1, FINISH, 0);
        due("done again to its end", y.wake(0), true);
        due("done", y.state(0), DONE);
        due("the first answer first", y.slot(0, 0), 3);
        due("the second then", y.slot(0, 1), 4);
        due("one is done", y.done(0, 0), 1);
        y.begin(4, 0);
        y.save(1);
        y.setQuota(0, 0, 1);
        Given.publish(y, 0, GATE, 0, ASK, 0, FINISH, 0);
        due("done again to a gate", y.wake(1), true);
        due("screened", y.state(1), SCREENED);
        AskMachine z = Given.begun(ASK, 0, ASK, 1, FINISH, 0);
        z.answer(0, 1);
        z.save(0);
        Given.publish(z, 0, FINISH, 0);
        z.wake(0);
        due("an answer that isn't asked for stays", z.answerAt(0, 0), 1);
        due("done", z.state(0), DONE);
    }

    private static void leave() {
        AskMachine x = Given.with(ASK, 0, ASK, 1, FINISH, 0);
        x.fund(0, 100);
        x.setPrice(0, 30);
        x.setPrice(1, 12);
        x.begin(0, 0);
        Checks.index("leave run 1", x, () -> x.leave(1));
        Checks.index("leave run -1", x, () -> x.leave(-1));
        x.answer(0, 1);
        due("leave", x.leave(0), 30);
        due("left", x.state(0), LEFT);
        due("nothing moves", x.budget(0), 70);
        Checks.state("leave a left one", x, () -> x.leave(0));
        x.begin(1, 0);
        x.answer(1, 1);
        x.save(1);
        x.reword(0);
        x.wake(1);
        x.answer(1, 2);
        x.save(1);
        due("leave a saved one", x.leave(1), 60);
        due("its question", x.question(1), 1);
        x.begin(2, 0);
        due("leave without an answer", x.leave(2), 0);
        x.setPrice(0, 0);
        x.begin(3, 0);
        x.answer(3, 1);
        x.setPrice(1, 0);
        x.answer(3, 1);
        Checks.state("leave an ended one", x, () -> x.leave(3));
    }

    private static void runsAndStates() {
        AskMachine x = Given.begun(ASK, 0, ZERO, 4, FINISH, 0, FINISH, 0, JUMP, 24);
        due("runs", x.runs(), 1);
        Checks.index("state run 1", x, () -> x.state(1));
        Checks.index("state run -1", x, () -> x.state(-1));
        due("asks", x.state(0), ASKS);
        x.save(0);
        due("saved", x.state(0), SAVED);
        x.wake(0);
        due("asks again", x.state(0), ASKS);
        due("answer to the end", x.answer(0, 1), DONE);
        due("done", x.state(0), DONE);
        x.begin(1, 0);
        due("answer to what is wrong", x.answer(1, 0), WRONG);
        due("runs then", x.runs(), 2);
        x.begin(2, 0);
        due("a begin that is refused is none", Checks.told(() -> x.begin(2, 0)), "IllegalStateException");
        due("runs last", x.runs(), 3);
    }

    private static void question() {
        AskMachine x = Given.begun(ASK, 7, ASK, 5, FINISH, 0);
        Checks.index("question run 1", x, () -> x.question(1));
        Checks.index("question run -1", x, () -> x.question(-1));
        due("question", x.question(0), 7);
        x.answer(0, 1);
        due("the next", x.question(0), 5);
        x.save(0);
        due("saved", x.question(0), 5);
        x.wake(0);
        x.answer(0, 1);
        due("done", x.question(0), NONE);
        x.begin(1, 0);
        x.leave(1);
        due("left", x.question(1), 7);
        Given.publish(x, 1, ASK, 7, ADD, 0);
        x.begin(0, 1);
        x.answer(2, 1);
        due("wrong", x.question(2), NONE);
        Given.publish(x, 2, ASK, 7, JUMP, 1);
        x.begin(0, 2);
        x.answer(3, 1);
        due("exhausted", x.question(3), NONE);
        Given.publish(x, 3, ASK, 7, GATE, 0);
        x.setQuota(3, 0, 0);
        x.begin(0, 3);
        x.answer(4, 1);
        due("screened", x.question(4), NONE);
    }

    private static void version() {
        AskMachine x = Given.begun(ASK, 0, FINISH, 0);
        Checks.index("version run 1", x, () -> x.version(1));
        Checks.index("version run -1", x, () -> x.version(-1));
        due("version", x.version(0), 0);
        Given.publish(x, 0, ASK, 1, FINISH, 0);
        Given.publish(x, 0, ASK, 2, FINISH, 0);
        due("it keeps its own", x.version(0), 0);
        x.begin(1, 0);
        due("the latest", x.version(1), 2);
        due("its code", x.question(1), 2);
        x.answer(0, 1);
        due("the old code goes on", x.state(0), DONE);
        due("and keeps its version", x.version(0), 0);
    }

    private static void fuelAndAgain() {
        AskMachine x = Given.begun(PUSH, 1, ASK, 0, ADD, 0, STORE, 0, JUMP, 24);
        Checks.index("fuel run 1", x, () -> x.fuel(1));
        Checks.index("fuel run -1", x, () -> x.fuel(-1));
        Checks.index("fuel again run 1", x, () -> x.fuelAgain(1));
        Checks.index("fuel again run -1", x, () -> x.fuelAgain(-1));
        due("fuel", x.fuel(0), 56);
        due("fuel again", x.fuelAgain(0), 56);
        x.setFuel(0, 8);
        due("the new fuel is for later runs", x.fuelAgain(0), 56);
        x.answer(0, 2);
        due("no instruction costs nothing", x.fuel(0), 53);
        due("nor again", x.fuelAgain(0), 53);
        x.begin(1, 0);
        x.answer(1, 2);
        due("wrong rather than exhausted", x.state(1), WRONG);
        due("with 1 left", x.fuel(1), 1);
        x.setFuel(0, 3);
        x.begin(2, 0);
        due("too little for an ASK", x.state(2), EXHAUSTED);
        due("it stays", x.fuel(2), 2);
        due("it stays again", x.fuelAgain(2), 2);
        x.setFuel(0, 4);
        x.begin(3, 0);
        due("just enough for an ASK", x.state(3), ASKS);
        due("none is left", x.fuel(3), 0);
        due("then the next", x.answer(3, 1), EXHAUSTED);
        due("none is left again", x.fuelAgain(3), 0);
        AskMachine y = Given.with(JUMP, 2, FINISH, 0);
        y.setFuel(0, 1);
        y.begin(0, 0);
        due("no instruction and no fuel is wrong", y.state(0), WRONG);
    }

    private static void slots() {
        AskMachine x = Given.begun(PUSH, -99, STORE, 7, ASK, 0, STORE, 0, LOAD, 7, STORE, 6, ASK, 1, FINISH, 0);
        Checks.index("slot run 1", x, () -> x.slot(1, 0));
        Checks.index("slot run -1", x, () -> x.slot(-1, 0));
        Checks.index("slot 8", x, () -> x.slot(0, 8));
        Checks.index("slot -1", x, () -> x.slot(0, -1));
        Checks.index("slot again run 1", x, () -> x.slotAgain(1, 0));
        Checks.index("slot again run -1", x, () -> x.slotAgain(-1, 0));
        Checks.index("slot 8 again", x, () -> x.slotAgain(0, 8));
        Checks.index("slot -1 again", x, () -> x.slotAgain(0, -1));
        due("slot 7", x.slot(0, 7), -99);
        due("slot 7 again", x.slotAgain(0, 7), -99);
        due("slot 6", x.slot(0, 6), 0);
        x.answer(0, 8);
        due("slot 0", x.slot(0, 0), 8);
        due("slot 0 again", x.slotAgain(0, 0), 8);
        due("slot 6 from 7", x.slot(0, 6), -99);
        x.reword(0);
        due("the wording of then again", x.slotAgain(0, 0), 8);
        Given.publish(x, 0, FINISH, 0);
        due("the version of then again", x.slotAgain(0, 0), 8);
        x.begin(1, 0);
        due("slots of another run", x.slotAgain(1, 0), 0);
    }

    private static void stack() {
        AskMachine x = Given.begun(ADD, 0);
        Checks.index("depth run 1", x, () -> x.depth(1));
        Checks.index("depth run -1", x, () -> x.depth(-1));
        due("nothing to take", x.state(0), WRONG);
        due("depth", x.depth(0), 0);
        for (int instruction = ADD; instruction <= EQUAL; instruction++) {
            AskMachine y = Given.begun(PUSH, 1, instruction, 0);
            due("one to take", y.state(0), WRONG);
            due("it is gone", y.depth(0), 0);
            AskMachine z = Given.begun(PUSH, 1, PUSH, 1, PUSH, 1, instruction, 0, ASK, 0);
            due("two of three", z.depth(0), 2);
        }
        due("STORE takes", Given.begun(STORE, 0).state(0), WRONG);
        due("ZERO takes", Given.begun(ZERO, 0).state(0), WRONG);
        AskMachine eight = Given.begun(PUSH, 0, PUSH, 0, PUSH, 0, PUSH, 0, PUSH, 0, PUSH, 0, PUSH, 0, PUSH, 0, ASK, 0, FINISH, 0);
        due("it asks with a full stack", eight.state(0), ASKS);
        due("depth 8", eight.depth(0), 8);
        eight.fund(0, 10);
        eight.setPrice(0, 10);
        due("the answer does wrong", eight.answer(0, 1), WRONG);
        due("the answer is kept", eight.answers(0), 1);
        due("and paid", eight.reward(0), 10);
        due("and repaid", eight.repaid(), 10);
        due("depth 8 still", eight.depth(0), 8);
        due("fuel", eight.fuel(0), 49);
        due("fuel again", eight.fuelAgain(0), 49);
        AskMachine push = Given.begun(PUSH, 0, JUMP, 0);
        due("a ninth does wrong", push.state(0), WRONG);
        due("its fuel is gone", push.fuel(0), 60 - 17);
        due("depth of 8", push.depth(0), 8);
        AskMachine load = Given.begun(LOAD, 0, JUMP, 0);
        due("a ninth from a slot does wrong", load.state(0), WRONG);
        due("depth of 8 then", load.depth(0), 8);
        due("a full stack gives", Given.begun(PUSH, 0, PUSH, 0, PUSH, 0, PUSH, 0, PUSH, 0, PUSH, 0, PUSH, 0, PUSH, 0, ADD, 0, PUSH, 0, FINISH, 0).state(0), DONE);
    }

    private static int result(int instruction, int a, int b) {
        return Given.begun(PUSH, a, PUSH, b, instruction, 0, STORE, 0, FINISH, 0).slot(0, 0);
    }

    private static void arithmetic() {
        due("3 + 4", result(ADD, 3, 4), 7);
        due("3 - 4", result(MINUS, 3, 4), -1);
        due("4 - 3", result(MINUS, 4, 3), 1);
        due("3 < 4", result(LESS, 3, 4), 1);
        due("4 < 3", result(LESS, 4, 3), 0);
        due("4 < 4", result(LESS, 4, 4), 0);
        due("-1 < 0", result(LESS, -1, 0), 1);
        due("3 == 4", result(EQUAL, 3, 4), 0);
        due("-4 == -4", result(EQUAL, -4, -4), 1);
        int[] doubling = {PUSH, 99, STORE, 0, LOAD, 0, LOAD, 0, ADD, 0, STORE, 0, JUMP, 2};
        AskMachine high = Given.begun(doubling);
        due("held at the top", high.slot(0, 0), 9999);
        doubling[1] = -99;
        due("held at the bottom", Given.begun(doubling).slot(0, 0), -9999);
        int[] lessening = {PUSH, 99, STORE, 0, PUSH, 0, LOAD, 0, LOAD, 0, ADD, 0, MINUS, 0, STORE, 0, JUMP, 2};
        AskMachine less = Given.with(lessening);
        less.setFuel(0, 2 + 7 * 6 + 5);
        less.begin(0, 0);
        due("minus", less.slot(0, 0), 99 * 64);
        less.setFuel(0, 2 + 7 * 7);
        less.begin(1, 0);
        due("minus is held at the bottom", less.slot(1, 0), -9999);
        due("bottom less bottom", Given.begun(PUSH, -99, STORE, 0, LOAD, 0, LOAD, 0, MINUS, 0, STORE, 1, FINISH, 0).slot(0, 1), 0);
    }

    private static void jumps() {
        AskMachine x = Given.begun(JUMP, 2, FINISH, 0, ASK, 1, ZERO, 6, PUSH, 1, FINISH, 0, PUSH, 2, PUSH, 2, FINISH, 0);
        due("jumped over", x.state(0), ASKS);
        x.answer(0, 0);
        due("zero jumps", x.depth(0), 2);
        x.begin(1, 0);
        x.answer(1, 1);
        due("another does not", x.depth(1), 1);
        due("jump behind the end", Given.begun(JUMP, 1).state(0), WRONG);
        due("jump to 24", Given.begun(JUMP, 24).state(0), WRONG);
        due("zero behind the end", Given.begun(PUSH, 0, ZERO, 24, FINISH, 0).state(0), WRONG);
        due("not zero, not behind the end", Given.begun(PUSH, -1, ZERO, 24, FINISH, 0).state(0), DONE);
        due("over the end", Given.begun(PUSH, 0).state(0), WRONG);
        int[] full = new int[48];
        for (int i = 0; i < 48; i += 2) {
            full[i] = PAY;
        }
        AskMachine y = Given.begun(full);
        due("over the end of 24", y.state(0), WRONG);
        due("24 fuel", y.fuel(0), 36);
        full[46] = FINISH;
        due("an instruction at 23", Given.begun(full).state(0), DONE);
    }

    private static void asking() {
        AskMachine x = Given.begun(ASK, 0, STORE, 0, ASK, 1, STORE, 1, ASK, 0, STORE, 2, ASK, 2, FINISH, 0);
        x.answer(0, 1);
        x.answer(0, 2);
        due("asked a second time", x.question(0), 0);
        x.answer(0, 3);
        due("the first", x.slot(0, 0), 1);
        due("the second", x.slot(0, 2), 3);
        due("again, the first", x.slotAgain(0, 0), 1);
        due("again, the second", x.slotAgain(0, 2), 3);
        x.save(0);
        x.reword(1);
        due("done again", x.wake(0), true);
        due("the question with the new wording is asked", x.question(0), 1);
        due("the first stays", x.slot(0, 0), 1);
        due("the later isn't there yet", x.slot(0, 2), 0);
        x.reword(0);
        x.answer(0, 9);
        due("goes on with its wordings", x.question(0), 2);
        due("the second stays", x.slot(0, 2), 3);
        x.save(0);
        due("done again for both answers", x.wake(0), true);
        due("asks the first", x.question(0), 0);
        x.answer(0, 5);
        due("the other stays", x.slot(0, 1), 9);
        due("asks the second time", x.question(0), 0);
        due("answers", x.answers(0), 5);
        due("an answer in between", x.answerAt(0, 3), 1019);
        due("the last", x.answerAt(0, 4), 1005);
        AskMachine full = Given.begun(ASK, 0, STORE, 0, ASK, 1, FINISH, 0);
        full.answer(0, 1);
        full.save(0);
        Given.publish(full, 0, PUSH, 1, PUSH, 1, PUSH, 1, PUSH, 1, PUSH, 1, PUSH, 1, PUSH, 1, PUSH, 1, ASK, 0, FINISH, 0);
        due("done again onto a full stack", full.wake(0), true);
        due("does wrong", full.state(0), WRONG);
    }

    private static void answersOfARun() {
        AskMachine x = Given.begun(ASK, 15, ASK, 3, FINISH, 0);
        Checks.index("answers run 1", x, () -> x.answers(1));
        Checks.index("answers run -1", x, () -> x.answers(-1));
        Checks.index("no answer 0", x, () -> x.answerAt(0, 0));
        due("no answers", x.answers(0), 0);
        x.answer(0, 9);
        due("answers", x.answers(0), 1);
        due("answer", x.answerAt(0, 0), 159);
        Checks.index("no answer 1", x, () -> x.answerAt(0, 1));
        Checks.index("no answer -1", x, () -> x.answerAt(0, -1));
        Checks.index("no run 1", x, () -> x.answerAt(1, 0));
        Checks.index("no run -1", x, () -> x.answerAt(-1, 0));
        x.save(0);
        x.reword(15);
        x.reword(15);
        x.wake(0);
        x.answer(0, 4);
        due("with the wording", x.answerAt(0, 1), 2154);
        due("the older", x.answerAt(0, 0), 159);
        x.answer(0, 0);
        due("the last", x.answerAt(0, 2), 30);
        due("answers then", x.answers(0), 3);
    }

    private static void gates() {
        AskMachine x = Given.with(GATE, 0, ASK, 0, GATE, 0, PUSH, 1, FINISH, 0);
        x.setQuota(0, 3, 1);
        x.begin(3, 0);
        x.begin(7, 0);
        x.begin(2, 0);
        due("first done", x.answer(0, 1), DONE);
        due("done", x.done(0, 3), 1);
        due("screened at its gate", x.answer(1, 1), SCREENED);
        due("behind nothing", x.depth(1), 1);
        due("the other panel passes", x.answer(2, 1), DONE);
        due("done of it", x.done(0, 2), 1);
        x.begin(11, 0);
        due("screened at the first gate", x.state(3), SCREENED);
        due("with 59", x.fuel(3), 59);
        Checks.index("done form 4", x, () -> x.done(4, 0));
        Checks.index("done form -1", x, () -> x.done(-1, 0));
        Checks.index("done panel 4", x, () -> x.done(0, 4));
        Checks.index("done panel -1", x, () -> x.done(0, -1));
        Given.publish(x, 1, GATE, 0, FINISH, 0);
        x.setQuota(1, 3, 1);
        x.begin(3, 1);
        due("another form counts its own", x.state(4), DONE);
        due("done of that", x.done(1, 3), 1);
        due("a wrong one", Given.publish(x, 1, ADD, 0), 1);
        x.begin(1, 1);
        due("is not done", x.done(1, 1), 0);
        Given.publish(x, 2, PAY, 30, GATE, 0, FINISH, 0);
        x.fund(2, 100);
        x.setQuota(2, 0, 0);
        x.begin(0, 2);
        due("a quota of 0 bars", x.state(6), SCREENED);
        due("without a bonus", x.reward(0), 0);
    }

    private static void gatesAgain() {
        AskMachine x = Given.with(GATE, 0, ASK, 0, GATE, 0, PUSH, 5, STORE, 4, ASK, 1, FINISH, 0);
        for (int respondent = 0; respondent < 16; respondent += 4) {
            x.begin(respondent, 0);
            x.answer(respondent / 4, 1);
        }
        x.setQuota(0, 0, 0);
        due("passed then, again", x.fuelAgain(0), x.fuel(0));
        due("slot again", x.slotAgain(0, 4), 5);
        due("barred at its end", x.answer(0, 1), SCREENED);
        due("fuel at its end", x.fuelAgain(0), 60 - 11);
        x.setQuota(0, 0, 1);
        x.answer(1, 1);
        due("one is done", x.state(1), DONE);
        due("fuel of that", x.fuelAgain(1), 49);
        x.save(2);
        x.reword(0);
        due("done again to a gate", x.wake(2), true);
        due("barred at its first gate", x.state(2), SCREENED);
        x.setQuota(0, 0, 20);
        due("barred again", x.fuelAgain(2), 59);
        due("slot of a barred one", x.slotAgain(2, 4), 0);
        x.save(3);
        due("done again through the gates", x.wake(3), true);
        x.setQuota(0, 0, 0);
        due("passed one gate since", x.fuelAgain(3), 56);
        due("as it is", x.fuel(3), 56);
        due("barred at the second", x.answer(3, 1), SCREENED);
        x.setQuota(0, 0, 20);
        due("at the second again", x.fuelAgain(3), 55);
        due("slot again of it", x.slotAgain(3, 4), 0);
    }

    private static void money() {
        AskMachine x = Given.with(ASK, 0, PAY, 20, ASK, 1, FINISH, 0);
        x.fund(0, 500);
        x.setPrice(0, 11);
        x.begin(15, 0);
        x.begin(14, 0);
        x.answer(0, 1);
        x.answer(0, 1);
        x.answer(1, 1);
        due("reward", x.reward(15), 31);
        due("reward of another", x.reward(14), 11);
        due("budget", x.budget(0), 458);
        due("budget of another", x.budget(1), 0);
        Checks.index("reward 16", x, () -> x.reward(16));
        Checks.index("reward -1", x, () -> x.reward(-1));
        Checks.index("budget 4", x, () -> x.budget(4));
        Checks.index("budget -1", x, () -> x.budget(-1));
        due("repaid", x.repaid(), 0);
        Given.publish(x, 3, ASK, 0, ADD, 0);
        x.fund(3, 11);
        x.begin(15, 3);
        x.answer(2, 1);
        due("reward of both forms", x.reward(15), 42);
        due("repaid to the form", x.budget(3), 11);
        due("repaid then", x.repaid(), 11);
    }
}
