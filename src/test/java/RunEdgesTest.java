/** The sentences on runs, answers, money, saving and doing again (promises 9 to 28) that name an edge, each with a test of its own. */
public final class RunEdgesTest {
    private static final int ASK = AskMachine.ASK, PUSH = AskMachine.PUSH, LOAD = AskMachine.LOAD, STORE = AskMachine.STORE;
    private static final int ADD = AskMachine.ADD, JUMP = AskMachine.JUMP, ZERO = AskMachine.ZERO, PAY = AskMachine.PAY;
    private static final int GATE = AskMachine.GATE, FINISH = AskMachine.FINISH;
    private static final int ASKS = AskMachine.ASKS, SAVED = AskMachine.SAVED, DONE = AskMachine.DONE, SCREENED = AskMachine.SCREENED;
    private static final int EXHAUSTED = AskMachine.EXHAUSTED, WRONG = AskMachine.WRONG, LEFT = AskMachine.LEFT;
    private static final int NONE = AskMachine.NONE;

    public static void main(String[] args) {
        runsFrom0To23();
        beginsWithTheLatestVersion();
        beginGoesOnAtOnce();
        oneRunOfAFormForARespondent();
        endedRunsCountAsBegun();
        valuesFrom0To9();
        answerTellsWhatTheRunIsThen();
        budgetLessThanThePrice();
        budgetOfItsOwnForm();
        wordingThatTheRunHas();
        priceOfNow();
        repaysNothingWithoutAnswers();
        repaysAllOfThisRunAlone();
        repaysOlderWordings();
        repaysWhenDoneAgain();
        repaysNoOtherEnd();
        savesWhatAsks();
        wakesAsItDid();
        wakesForANewerVersion();
        wakesForANewWordingOfAnAnswer();
        wakesForNoOtherWording();
        wakesForTheRunsWordingAlone();
        wakesForTheWordingOfItsBegin();
        wakesAgainOnlyOnce();
        againWithTheFuelOfNow();
        againWithEmptyStackAndSlots();
        againWithoutABonus();
        againFromThePlace0();
        againWithoutPaying();
        againToAnEnd();
        unsavedRunsGoOn();
        leavesWhatAsksOrIsSaved();
        leaveTellsWhatWasPaid();
        questionOfEachState();
        fuelOfEachState();
        againInEachState();
        gatesAgainAsTheyWere();
        gatesAgainSinceDoneAgain();
        depthFrom0To8();
        answersFromNone();
        answerAtPutsTogether();
        answersInOneObject();
        rewardsOfAllForms();
        doneOfEachPanel();
        Checks.end();
    }

    private static void due(String what, Object got, Object want) {
        Checks.due(what, got, want);
    }

    /** Saves the run, words the questions anew, wakes it, and tells if it was done again. */
    private static boolean woken(AskMachine x, int run, int... questions) {
        x.save(run);
        for (int question : questions) {
            x.reword(question);
        }
        return x.wake(run);
    }

    // "or there are 24 runs"; "Returns the number of the run, from 0 on."
    private static void runsFrom0To23() {
        AskMachine x = Given.with(ASK, 0, FINISH, 0);
        Given.publish(x, 1, FINISH, 0);
        due("no runs", x.runs(), 0);
        for (int run = 0; run <= 23; run++) {
            due("run " + run, x.begin(run % 16, run / 16), run);
            due("runs", x.runs(), run + 1);
        }
        Checks.state("a 25th", x, () -> x.begin(15, 1));
        x.answer(0, 1);
        x.leave(1);
        Checks.state("ended ones make no room", x, () -> x.begin(15, 1));
        due("state of run 23", x.state(23), DONE);
        due("runs still", x.runs(), 24);
    }

    // "Begins a run, with the latest version of the form"
    private static void beginsWithTheLatestVersion() {
        AskMachine x = Given.with(ASK, 0);
        x.begin(0, 0);
        Given.publish(x, 0, ASK, 1);
        Given.publish(x, 0, ASK, 2);
        x.write(0, ASK, 3);
        x.begin(1, 0);
        due("the first version", x.version(0), 0);
        due("the latest version", x.version(1), 2);
        due("its question", x.question(1), 2);
    }

    // "which goes on at once"
    private static void beginGoesOnAtOnce() {
        int[][] codes = {{ASK, 0}, {FINISH, 0}, {GATE, 0}, {JUMP, 0}, {ADD, 0}};
        int[] states = {ASKS, DONE, SCREENED, EXHAUSTED, WRONG};
        for (int i = 0; i < codes.length; i++) {
            AskMachine x = Given.with(codes[i]);
            x.setQuota(0, 0, codes[i][0] == GATE ? 0 : 20);
            due("begin", x.begin(0, 0), 0);
            due("what it is then", x.state(0), states[i]);
        }
    }

    // "the respondent has a run of it already"
    private static void oneRunOfAFormForARespondent() {
        AskMachine x = Given.with(ASK, 0, FINISH, 0);
        for (int form = 1; form <= 3; form++) {
            Given.publish(x, form, ASK, 0, FINISH, 0);
        }
        for (int form = 0; form <= 3; form++) {
            int f = form;
            due("a run of form " + form, x.begin(15, form), form);
            Checks.state("another of form " + form, x, () -> x.begin(15, f));
        }
        due("another respondent", x.begin(14, 0), 4);
        Given.publish(x, 0, ASK, 1, FINISH, 0);
        Checks.state("a newer version is the same form", x, () -> x.begin(15, 0));
    }

    // "ended ones counted"
    private static void endedRunsCountAsBegun() {
        int[][] ends = {{FINISH, 0}, {GATE, 0}, {JUMP, 1}, {ADD, 0}};
        for (int[] end : ends) {
            AskMachine x = Given.with(ASK, 0, end[0], end[1]);
            x.begin(0, 0);
            x.setQuota(0, 0, end[0] == GATE ? 0 : 20);
            x.answer(0, 1);
            due("ended by " + end[0], x.question(0), NONE);
            Checks.state("begin again behind " + end[0], x, () -> x.begin(0, 0));
        }
        AskMachine left = Given.begun(ASK, 0);
        left.leave(0);
        Checks.state("begin again when it was left", left, () -> left.begin(0, 0));
    }

    // "value: 0 to 9"
    private static void valuesFrom0To9() {
        for (int value = 0; value <= 9; value++) {
            AskMachine x = Given.begun(ASK, 0, STORE, 3, FINISH, 0);
            Checks.argument("value -1", x, () -> x.answer(0, -1));
            Checks.argument("value 10", x, () -> x.answer(0, 10));
            due("value " + value, x.answer(0, value), DONE);
            due("is what the run gets", x.slot(0, 3), value);
            due("again", x.slotAgain(0, 3), value);
            due("is kept", x.answerAt(0, 0), value);
        }
    }

    // "Returns what the run is then."
    private static void answerTellsWhatTheRunIsThen() {
        int[][] codes = {{ASK, 1}, {FINISH, 0}, {GATE, 0}, {JUMP, 1}, {ADD, 0}};
        int[] states = {ASKS, DONE, SCREENED, EXHAUSTED, WRONG};
        for (int i = 0; i < codes.length; i++) {
            AskMachine x = Given.begun(ASK, 0, codes[i][0], codes[i][1]);
            x.setQuota(0, 0, codes[i][0] == GATE ? 0 : 20);
            due("what answer tells", x.answer(0, 1), states[i]);
            due("what it is", x.state(0), states[i]);
        }
    }

    // "or the budget of its form is less than the price of the question"
    private static void budgetLessThanThePrice() {
        for (int price : new int[] {1, 1000}) {
            for (int more = -1; more <= 1; more++) {
                AskMachine x = Given.begun(ASK, 0, FINISH, 0);
                x.setPrice(0, price);
                if (price + more > 0) {
                    x.fund(0, price + more);
                }
                if (more < 0) {
                    Checks.state("a budget less by 1 than " + price, x, () -> x.answer(0, 1));
                    due("it asks still", x.state(0), ASKS);
                    x.fund(0, 1);
                }
                due("a budget that is enough", x.answer(0, 1), DONE);
                due("reward", x.reward(0), price);
                due("budget", x.budget(0), Math.max(0, more));
            }
        }
        AskMachine free = Given.begun(ASK, 0, FINISH, 0);
        due("price 0, budget 0", free.answer(0, 1), DONE);
    }

    // "of its form"
    private static void budgetOfItsOwnForm() {
        AskMachine x = Given.with(ASK, 0, FINISH, 0);
        Given.publish(x, 3, ASK, 0, FINISH, 0);
        x.setPrice(0, 10);
        x.fund(3, 10);
        x.begin(0, 0);
        x.begin(0, 3);
        Checks.state("another form's budget", x, () -> x.answer(0, 1));
        due("its own", x.answer(1, 1), DONE);
        due("goes from there", x.budget(3), 0);
    }

    // "kept with the question and the wording that the run has of it"
    private static void wordingThatTheRunHas() {
        AskMachine x = Given.with(ASK, 2, ASK, 3, FINISH, 0);
        x.reword(2);
        x.begin(0, 0);
        x.reword(2);
        x.reword(3);
        x.answer(0, 5);
        x.answer(0, 6);
        due("worded anew once ahead of it, once behind", x.answerAt(0, 0), 1025);
        due("worded anew behind its begin alone", x.answerAt(0, 1), 36);
        x.begin(1, 0);
        x.answer(1, 5);
        due("a later run has that of now", x.answerAt(1, 0), 2025);
    }

    // "The price of the question goes from the budget of the form to the respondent"
    private static void priceOfNow() {
        AskMachine x = Given.begun(ASK, 0, STORE, 0, ASK, 1, FINISH, 0);
        x.fund(0, 100);
        x.setPrice(0, 30);
        x.setPrice(0, 20);
        x.setPrice(1, 5);
        x.answer(0, 1);
        due("the price of now", x.reward(0), 20);
        x.setPrice(0, 40);
        due("a later price changes nothing", x.reward(0), 20);
        x.answer(0, 1);
        due("the price of the other question", x.reward(0), 25);
        due("all of it went", x.budget(0), 75);
    }

    // "the house repays .. all that went from there for answers of this run": nothing, if nothing went
    private static void repaysNothingWithoutAnswers() {
        for (int end : new int[] {ADD, JUMP}) {
            AskMachine x = Given.with(end, 0);
            x.fund(0, 50);
            x.begin(0, 0);
            due("nothing is repaid", x.repaid(), 0);
            due("budget", x.budget(0), 50);
            AskMachine y = Given.begun(ASK, 0, PUSH, 0, STORE, 0, end, end == ADD ? 0 : 1);
            due("an answer for nothing", y.answer(0, 1), end == ADD ? WRONG : EXHAUSTED);
            due("nothing is repaid for it", y.repaid(), 0);
        }
    }

    // The same: all of this run, nothing of others, and the respondent keeps it.
    private static void repaysAllOfThisRunAlone() {
        AskMachine x = Given.with(ASK, 0, STORE, 0, ASK, 0, ZERO, 5, FINISH, 0, PUSH, 1, ADD, 0);
        Given.publish(x, 1, ASK, 0, JUMP, 1);
        x.fund(0, 1000);
        x.fund(1, 100);
        x.setPrice(0, 10);
        x.begin(0, 0);
        x.begin(1, 0);
        x.begin(0, 1);
        x.answer(0, 1);
        x.answer(1, 1);
        x.setPrice(0, 7);
        due("WRONG", x.answer(0, 0), WRONG);
        due("repaid", x.repaid(), 17);
        due("budget but for the other run", x.budget(0), 990);
        due("the respondent keeps it", x.reward(0), 17);
        x.setPrice(0, 3);
        due("EXHAUSTED", x.answer(2, 1), EXHAUSTED);
        due("repaid in all", x.repaid(), 20);
        due("to its form", x.budget(1), 100);
        due("and to no other", x.budget(0), 990);
        due("the respondent keeps both", x.reward(0), 20);
        due("the other run ends", x.answer(1, 1), DONE);
        due("without repaying", x.repaid(), 20);
    }

    // "all": those with older wordings as well
    private static void repaysOlderWordings() {
        AskMachine x = Given.begun(ASK, 0, ASK, 1, STORE, 0, ADD, 0);
        x.fund(0, 100);
        x.setPrice(0, 10);
        x.setPrice(1, 1);
        x.answer(0, 1);
        due("done again", woken(x, 0, 0), true);
        x.setPrice(0, 20);
        x.answer(0, 2);
        due("done again once more", woken(x, 0, 0), true);
        x.answer(0, 3);
        due("budget ahead of the end", x.budget(0), 50);
        due("wrong", x.answer(0, 4), WRONG);
        due("repaid", x.repaid(), 51);
        due("budget", x.budget(0), 100);
        due("reward", x.reward(0), 51);
    }

    // "When a run ends WRONG or EXHAUSTED": also when it is woken
    private static void repaysWhenDoneAgain() {
        for (int end : new int[] {ADD, JUMP}) {
            AskMachine x = Given.begun(ASK, 0, ASK, 1, FINISH, 0);
            x.fund(0, 100);
            x.setPrice(0, 10);
            x.answer(0, 1);
            x.save(0);
            Given.publish(x, 0, ASK, 0, end, end == ADD ? 0 : 1);
            due("done again", x.wake(0), true);
            due("to its end", x.state(0), end == ADD ? WRONG : EXHAUSTED);
            due("repaid", x.repaid(), 10);
            due("budget", x.budget(0), 100);
        }
    }

    // The same: for no other end.
    private static void repaysNoOtherEnd() {
        for (int end : new int[] {FINISH, GATE, LEFT}) {
            AskMachine x = Given.begun(ASK, 0, end == LEFT ? ASK : end, 0);
            x.fund(0, 100);
            x.setPrice(0, 10);
            x.setQuota(0, 0, end == GATE ? 0 : 20);
            x.answer(0, 1);
            if (end == LEFT) {
                x.leave(0);
            }
            due("its end", x.state(0), end == FINISH ? DONE : end == GATE ? SCREENED : LEFT);
            due("nothing is repaid", x.repaid(), 0);
            due("budget", x.budget(0), 90);
        }
    }

    // "A run that ASKS can be saved, and is SAVED then."
    private static void savesWhatAsks() {
        AskMachine x = Given.begun(PUSH, 7, ASK, 4, FINISH, 0);
        String before = Checks.shown(x, 0);
        x.save(0);
        due("saved", x.state(0), SAVED);
        due("nothing else has changed", Checks.shown(x, 0), before.replace("state 0", "state 1"));
        Checks.state("save it again", x, () -> Given.saved(x, 0));
        due("it is no end", x.question(0), 4);
    }

    // "it ASKS as it did", if there is no newer version and no new wording; fuel, prices, quotas and budgets don't matter
    private static void wakesAsItDid() {
        AskMachine x = Given.begun(GATE, 0, PAY, 9, ASK, 0, STORE, 5, PUSH, 3, ASK, 1, FINISH, 0);
        x.fund(0, 100);
        x.answer(0, 8);
        String before = Checks.shown(x);
        x.save(0);
        x.setFuel(0, 1);
        x.setPrice(0, 50);
        x.setPrice(1, 60);
        x.setQuota(0, 0, 0);
        x.write(0, FINISH, 0);
        due("woken", x.wake(0), false);
        due("as it did", Checks.shown(x), before);
        Checks.state("wake it again", x, () -> x.wake(0));
        x.setQuota(0, 0, 20);
        x.setPrice(1, 0);
        due("it goes on", x.answer(0, 1), DONE);
        due("with its bonus", x.reward(0), 9);
    }

    // "its form has no newer version than its own"
    private static void wakesForANewerVersion() {
        AskMachine x = Given.begun(ASK, 0, FINISH, 0);
        Given.publish(x, 1, ASK, 1, FINISH, 0);
        due("a version of another form", woken(x, 0), false);
        Given.publish(x, 0, ASK, 0, FINISH, 0);
        due("one newer", woken(x, 0), true);
        due("is the run's then", x.version(0), 1);
        due("none newer", woken(x, 0), false);
        x.save(0);
        for (int version = 2; version <= 5; version++) {
            Given.publish(x, 0, ASK, version, FINISH, 0);
        }
        due("four newer", x.wake(0), true);
        due("it gets the latest", x.version(0), 5);
        due("and its code", x.question(0), 5);
        due("none newer than the last", woken(x, 0), false);
    }

    // "no question to which it has an answer with the wording that it has of it has another wording now"
    private static void wakesForANewWordingOfAnAnswer() {
        for (int question = 0; question <= 15; question += 15) {
            AskMachine x = Given.begun(ASK, question, ASK, 7, FINISH, 0);
            x.answer(0, 4);
            due("no new wording", woken(x, 0), false);
            due("a new wording", woken(x, 0, question), true);
            due("it is asked anew", x.question(0), question);
            x.answer(0, 5);
            due("two new wordings", woken(x, 0, question, question), true);
            due("the answers stay", x.answers(0), 2);
        }
        AskMachine second = Given.begun(ASK, 1, ASK, 2, ASK, 3);
        second.answer(0, 1);
        second.answer(0, 1);
        due("a new wording of the last answer alone", woken(second, 0, 2), true);
        due("the first is found", second.question(0), 2);
    }

    // The same: "to which it has an answer"
    private static void wakesForNoOtherWording() {
        AskMachine x = Given.begun(ASK, 1, ASK, 2, ASK, 3);
        due("the question that it asks", woken(x, 0, 1), false);
        x.answer(0, 0);
        due("has the wording of its begin", x.answerAt(0, 0), 10);
        AskMachine y = Given.begun(ASK, 1, ASK, 2, ASK, 3);
        y.answer(0, 0);
        due("questions without an answer", woken(y, 0, 2, 3, 4, 0, 15), false);
        due("it asks as it did", y.question(0), 2);
        y.begin(1, 0);
        y.answer(1, 1);
        due("an answer of another run", woken(y, 0, 3), false);
        AskMachine z = Given.begun(ASK, 1, ASK, 2);
        z.reword(1);
        z.begin(1, 0);
        z.answer(1, 1);
        due("a wording that is not 0, but the run's", woken(z, 1), false);
    }

    // The same: "with the wording that it has of it"
    private static void wakesForTheRunsWordingAlone() {
        AskMachine x = Given.begun(ASK, 1, ASK, 2, FINISH, 0);
        x.answer(0, 1);
        due("for its answer", woken(x, 0, 1), true);
        due("that has an older wording then", woken(x, 0, 1), false);
        x.answer(0, 2);
        due("the run's wording is that of the last doing", x.answerAt(0, 1), 1012);
        due("so it is done again for this one", woken(x, 0), true);
        due("asks it a third time", x.question(0), 1);
        x.answer(0, 3);
        due("with the wording of now", x.answerAt(0, 2), 2013);
        due("older ones stay and do not matter", woken(x, 0), false);
        due("the next", x.question(0), 2);
    }

    // "the wordings that all questions had when it was begun": a wording anew behind that matters as soon as there is an answer
    private static void wakesForTheWordingOfItsBegin() {
        AskMachine x = Given.begun(ASK, 1, ASK, 2, FINISH, 0);
        x.reword(1);
        due("no answer yet", woken(x, 0), false);
        x.answer(0, 1);
        due("an answer with the wording of its begin", woken(x, 0), true);
        due("it is asked anew", x.question(0), 1);
        due("fuel", x.fuel(0), 57);
    }

    // "the wordings of now": a second waking finds nothing new
    private static void wakesAgainOnlyOnce() {
        AskMachine x = Given.begun(ASK, 1, ASK, 2, FINISH, 0);
        x.answer(0, 1);
        x.save(0);
        x.reword(1);
        x.reword(2);
        Given.publish(x, 0, ASK, 2, ASK, 1, FINISH, 0);
        due("done again", x.wake(0), true);
        due("not once more", woken(x, 0), false);
        x.answer(0, 5);
        due("with the wordings of now", x.answerAt(0, 1), 1025);
        due("not behind an answer", woken(x, 0), false);
    }

    // "the fuel that the form has now"
    private static void againWithTheFuelOfNow() {
        for (int fuel : new int[] {1, 2, 3, 200}) {
            AskMachine x = Given.begun(ASK, 0, ASK, 1, FINISH, 0);
            x.answer(0, 1);
            x.save(0);
            x.reword(0);
            x.setFuel(0, fuel);
            due("done again with " + fuel, x.wake(0), true);
            due("fuel", x.fuel(0), fuel < 3 ? fuel : fuel - 3);
            due("fuel again", x.fuelAgain(0), fuel < 3 ? fuel : fuel - 3);
            due("state", x.state(0), fuel < 3 ? EXHAUSTED : ASKS);
        }
    }

    // "an empty stack, empty slots"
    private static void againWithEmptyStackAndSlots() {
        int[] code = {};
        for (int slot = 0; slot <= 7; slot++) {
            code = Given.joined(code, PUSH, 9, STORE, slot);
        }
        AskMachine x = Given.begun(Given.joined(code, PUSH, 1, PUSH, 2, PUSH, 3, ASK, 0));
        due("depth", x.depth(0), 3);
        x.save(0);
        Given.publish(x, 0, ASK, 0);
        due("done again", x.wake(0), true);
        due("an empty stack", x.depth(0), 0);
        for (int slot = 0; slot <= 7; slot++) {
            due("an empty slot", x.slot(0, slot), 0);
            due("an empty slot again", x.slotAgain(0, slot), 0);
        }
        due("nothing but the answer on it", x.answer(0, 1), WRONG);
        due("depth then", x.depth(0), 1);
    }

    // "no bonus"
    private static void againWithoutABonus() {
        AskMachine x = Given.begun(PAY, 50, ASK, 0, PAY, 5, ASK, 1, FINISH, 0);
        x.fund(0, 1000);
        x.answer(0, 1);
        x.save(0);
        Given.publish(x, 0, ASK, 1, PAY, 3, FINISH, 0);
        x.wake(0);
        due("its end", x.answer(0, 1), DONE);
        due("the bonus since then", x.reward(0), 3);
    }

    // "and goes on from the place 0"
    private static void againFromThePlace0() {
        AskMachine x = Given.begun(ASK, 0, PUSH, 2, STORE, 2, ASK, 1, FINISH, 0);
        x.answer(0, 6);
        x.save(0);
        Given.publish(x, 0, PUSH, 1, STORE, 1, ASK, 0, STORE, 0, ASK, 1, FINISH, 0);
        x.wake(0);
        due("the first is done", x.slot(0, 1), 1);
        due("the answer is found", x.slot(0, 0), 6);
        due("it asks", x.question(0), 1);
        due("fuel", x.fuel(0), 51);
    }

    // "Its answers stay, those with older wordings as well; they are not paid for again."
    private static void againWithoutPaying() {
        AskMachine x = Given.begun(ASK, 0, STORE, 0, ASK, 1, STORE, 1, ASK, 2, FINISH, 0);
        x.fund(0, 30);
        x.setPrice(0, 10);
        x.setPrice(1, 20);
        x.answer(0, 3);
        x.answer(0, 4);
        due("done again without a budget", woken(x, 0, 1), true);
        due("reward", x.reward(0), 30);
        due("budget", x.budget(0), 0);
        due("answers", x.answers(0), 2);
        due("the one that is left", x.slot(0, 0), 3);
        due("the other is asked anew", x.question(0), 1);
        due("older ones stay", x.answerAt(0, 1), 14);
        Checks.state("and has its price again", x, () -> x.answer(0, 5));
        x.fund(0, 20);
        due("when it is answered", x.answer(0, 5), ASKS);
        due("reward then", x.reward(0), 50);
        due("leave tells all", x.leave(0), 50);
    }

    // A woken run may end at once.
    private static void againToAnEnd() {
        AskMachine x = Given.with(ASK, 0, ASK, 1);
        x.fund(0, 10);
        x.begin(0, 0);
        x.begin(4, 0);
        x.answer(0, 1);
        x.save(0);
        x.save(1);
        Given.publish(x, 0, PAY, 6, FINISH, 0);
        x.setQuota(0, 0, 1);
        due("the first is done again", x.wake(0), true);
        due("to its end", x.state(0), DONE);
        due("with its bonus", x.reward(0), 6);
        due("the second is done again", x.wake(1), true);
        due("and is barred", x.state(1), SCREENED);
        due("no bonus", x.reward(4), 0);
        due("its answers stay", x.answers(0), 1);
        Checks.state("an ended one does not wake", x, () -> x.wake(1));
    }

    // "Runs that are not saved go on with their version and their wordings, whatever is published or worded anew."
    private static void unsavedRunsGoOn() {
        AskMachine x = Given.begun(ASK, 0, STORE, 0, ASK, 1, ASK, 0, FINISH, 0);
        x.answer(0, 1);
        x.reword(0);
        x.reword(1);
        Given.publish(x, 0, FINISH, 0);
        due("its version", x.version(0), 0);
        due("fuel again", x.fuelAgain(0), x.fuel(0));
        due("its answer again", x.slotAgain(0, 0), 1);
        x.answer(0, 2);
        due("its code goes on", x.question(0), 0);
        due("its wording", x.answerAt(0, 1), 12);
        due("to its end", x.answer(0, 3), DONE);
        due("its wording of then", x.answerAt(0, 2), 3);
    }

    // "if it neither ASKS nor is SAVED"
    private static void leavesWhatAsksOrIsSaved() {
        AskMachine x = Given.with(ASK, 0, FINISH, 0);
        x.begin(0, 0);
        x.begin(1, 0);
        x.begin(2, 0);
        x.save(1);
        due("leave what asks", x.leave(0), 0);
        due("it is LEFT", x.state(0), LEFT);
        due("leave what is saved", x.leave(1), 0);
        due("it is LEFT too", x.state(1), LEFT);
        x.answer(2, 1);
        for (int run = 0; run <= 2; run++) {
            int r = run;
            Checks.state("leave run " + run, x, () -> x.leave(r));
            Checks.state("save run " + run, x, () -> Given.saved(x, r));
            Checks.state("wake run " + run, x, () -> x.wake(r));
            Checks.state("answer run " + run, x, () -> x.answer(r, 1));
        }
    }

    // "Returns what was paid for its answers."
    private static void leaveTellsWhatWasPaid() {
        AskMachine x = Given.with(PAY, 100, ASK, 0, ASK, 1, ASK, 2, FINISH, 0);
        x.fund(0, 10000);
        x.setPrice(0, 1000);
        x.setPrice(1, 1);
        for (int respondent = 0; respondent <= 3; respondent++) {
            x.begin(respondent, 0);
            for (int answer = 0; answer < respondent; answer++) {
                x.answer(respondent, 1);
            }
        }
        due("no answer", x.leave(0), 0);
        due("one", x.leave(1), 1000);
        due("two", x.leave(2), 1001);
        Checks.state("three have ended it", x, () -> x.leave(3));
        due("the respondent keeps it", x.reward(2), 1001);
        due("the budget has lost it", x.budget(0), 10000 - 1000 - 1001 - 1101);
        due("nothing is repaid", x.repaid(), 0);
    }

    // "Returns the question for whose answer a run waits, or waited last. .. NONE if it is ended, but not LEFT."
    private static void questionOfEachState() {
        AskMachine x = Given.begun(ASK, 15, ASK, 0, FINISH, 0);
        due("asks", x.question(0), 15);
        x.save(0);
        due("saved", x.question(0), 15);
        x.wake(0);
        x.answer(0, 1);
        due("asks the next", x.question(0), 0);
        x.save(0);
        x.leave(0);
        due("left", x.question(0), 0);
        int[][] ends = {{FINISH, 0}, {GATE, 0}, {JUMP, 1}, {ADD, 0}};
        for (int[] end : ends) {
            AskMachine y = Given.begun(ASK, 15, end[0], end[1]);
            y.setQuota(0, 0, end[0] == GATE ? 0 : 20);
            y.answer(0, 1);
            due("ended by " + end[0], y.question(0), NONE);
            AskMachine z = Given.with(end[0], end[0] == JUMP ? 0 : end[1]);
            z.setQuota(0, 0, end[0] == GATE ? 0 : 20);
            z.begin(0, 0);
            due("ended without a question by " + end[0], z.question(0), NONE);
        }
        AskMachine again = Given.begun(ASK, 15, ASK, 3);
        again.save(0);
        Given.publish(again, 0, ASK, 7);
        again.wake(0);
        due("asked when it was done again", again.question(0), 7);
        again.leave(0);
        due("and left then", again.question(0), 7);
    }

    // "Returns what is left of it.", of a run in each state
    private static void fuelOfEachState() {
        AskMachine x = Given.begun(ASK, 0, FINISH, 0);
        due("asks", x.fuel(0), 57);
        x.save(0);
        due("saved", x.fuel(0), 57);
        x.leave(0);
        due("left", x.fuel(0), 57);
        due("left again", x.fuelAgain(0), 57);
        due("done", Given.begun(FINISH, 0).fuel(0), 59);
        due("done again", Given.begun(FINISH, 0).fuelAgain(0), 59);
        due("wrong", Given.begun(PAY, 0, ADD, 0).fuel(0), 58);
        due("wrong again", Given.begun(PAY, 0, ADD, 0).fuelAgain(0), 58);
        due("exhausted", Given.begun(JUMP, 0).fuel(0), 0);
        due("exhausted again", Given.begun(JUMP, 0).fuelAgain(0), 0);
    }

    // "Returns the same, by doing the run again from its answers, from where it was begun or done again last"
    private static void againInEachState() {
        int[] code = {ASK, 0, STORE, 0, ASK, 1, STORE, 1, ASK, 0, STORE, 2, LOAD, 2, ZERO, 12, LOAD, 2, PUSH, 1, ADD, 0, STORE, 3, FINISH, 0};
        AskMachine x = Given.with(code);
        for (int respondent = 0; respondent <= 6; respondent++) {
            x.begin(respondent, 0);
            for (int answer = 0; answer < Math.min(3, respondent); answer++) {
                x.answer(respondent, answer + 2);
            }
        }
        x.save(1);
        x.leave(2);
        x.setFuel(0, 1);
        x.reword(0);
        x.reword(1);
        x.setPrice(0, 999);
        Given.publish(x, 0, FINISH, 0);
        for (int run = 0; run <= 6; run++) {
            due("fuel again of run " + run, x.fuelAgain(run), x.fuel(run));
            for (int slot = 0; slot <= 7; slot++) {
                due("slot again " + slot + " of run " + run, x.slotAgain(run, slot), x.slot(run, slot));
            }
        }
        due("one that is done", x.slotAgain(6, 3), 5);
        due("one that waits for its third answer", x.slotAgain(2, 1), 3);
        due("fuel of one that is done", x.fuelAgain(6), 60 - 9 - 3 - 2 - 5);
    }

    // "each GATE and FINISH bars it or not as it did then"
    private static void gatesAgainAsTheyWere() {
        AskMachine x = Given.with(GATE, 0, PUSH, 1, STORE, 1, GATE, 0, ASK, 0, GATE, 0, PUSH, 2, STORE, 2, FINISH, 0);
        x.setQuota(0, 0, 1);
        x.begin(0, 0);
        x.begin(4, 0);
        due("done", x.answer(0, 1), DONE);
        due("its own end bars no gate of it", x.slotAgain(0, 2), 2);
        due("fuel again", x.fuelAgain(0), 60 - 8 - 3);
        due("two gates were passed", x.fuelAgain(1), 60 - 4 - 3);
        due("and what is behind the first", x.slotAgain(1, 1), 1);
        due("the third bars", x.answer(1, 1), SCREENED);
        x.begin(8, 0);
        due("the first bars", x.state(2), SCREENED);
        x.setQuota(0, 0, 20);
        due("the third bars again", x.slotAgain(1, 2), 0);
        due("fuel up to it", x.fuelAgain(1), 60 - 5 - 3);
        due("the first bars again", x.slotAgain(2, 1), 0);
        due("fuel up to that", x.fuelAgain(2), 59);
        x.begin(12, 0);
        due("passed for a quota of 20", x.answer(3, 1), DONE);
        x.setQuota(0, 0, 0);
        due("passed again", x.slotAgain(3, 2), 2);
        due("barred again", x.slotAgain(2, 1), 0);
        AskMachine finish = Given.with(PAY, 0, FINISH, 0);
        finish.setQuota(0, 0, 0);
        finish.begin(0, 0);
        finish.setQuota(0, 0, 20);
        due("a FINISH that barred", finish.fuelAgain(0), 58);
        due("it is SCREENED still", finish.state(0), SCREENED);
        due("doing again counts none", finish.done(0, 0), 0);
    }

    // The same: "from where it was begun or done again last"
    private static void gatesAgainSinceDoneAgain() {
        AskMachine x = Given.with(GATE, 0, GATE, 0, ASK, 0, FINISH, 0);
        x.begin(0, 0);
        x.begin(4, 0);
        x.answer(0, 1);
        x.save(1);
        Given.publish(x, 0, PUSH, 1, STORE, 1, GATE, 0, PUSH, 2, STORE, 2, ASK, 0, FINISH, 0);
        x.setQuota(0, 0, 1);
        due("done again", x.wake(1), true);
        due("barred", x.state(1), SCREENED);
        x.setQuota(0, 0, 20);
        due("ahead of its gate", x.slotAgain(1, 1), 1);
        due("behind its gate", x.slotAgain(1, 2), 0);
        due("fuel", x.fuelAgain(1), 57);
    }

    // "Returns 0 to 8."
    private static void depthFrom0To8() {
        for (int depth = 0; depth <= 8; depth++) {
            AskMachine x = Given.begun(Given.joined(Given.times(depth, PUSH, 0), ASK, 0, STORE, 0, FINISH, 0));
            due("depth " + depth, x.depth(0), depth);
            x.fuelAgain(0);
            due("doing again leaves it", x.depth(0), depth);
            x.save(0);
            due("saved", x.depth(0), depth);
            x.leave(0);
            due("left", x.depth(0), depth);
        }
        due("ended with one", Given.begun(PUSH, 0, FINISH, 0).depth(0), 1);
    }

    // "there is no such .. answer"; "Returns how many answers a run has, those with older wordings counted."
    private static void answersFromNone() {
        AskMachine x = Given.with(ASK, 0, STORE, 0, JUMP, 0);
        x.setFuel(0, 200);
        x.begin(0, 0);
        due("none", x.answers(0), 0);
        Checks.index("answer 0 of none", x, () -> x.answerAt(0, 0));
        Checks.index("answer -1 of none", x, () -> x.answerAt(0, -1));
        for (int answer = 0; answer <= 11; answer++) {
            int a = answer;
            x.answer(0, answer % 10);
            due("answers", x.answers(0), answer + 1);
            due("the last", x.answerAt(0, answer) % 10, answer % 10);
            due("the first", x.answerAt(0, 0), 0);
            Checks.index("one behind the last", x, () -> x.answerAt(0, a + 1));
            Checks.index("one ahead of the first", x, () -> x.answerAt(0, -1));
        }
        due("done again", woken(x, 0, 0), true);
        due("those with older wordings are counted", x.answers(0), 12);
        due("and told", x.answerAt(0, 9), 9);
    }

    // "Returns 1000 times the wording, 10 times the question, and the value, added."
    private static void answerAtPutsTogether() {
        for (int question = 0; question <= 15; question += 15) {
            for (int wording = 0; wording <= 400; wording += 200) {
                AskMachine x = Given.with(ASK, question, ASK, question, FINISH, 0);
                for (int i = 0; i < wording; i++) {
                    x.reword(question);
                }
                x.begin(0, 0);
                x.answer(0, 0);
                x.answer(0, 9);
                due("value 0", x.answerAt(0, 0), 1000 * wording + 10 * question);
                due("value 9", x.answerAt(0, 1), 1000 * wording + 10 * question + 9);
            }
        }
    }

    // "An object is used for at most 512 calls": so many answers of one run are kept as these can give
    private static void answersInOneObject() {
        AskMachine x = Given.with(ASK, 0, STORE, 0, JUMP, 0);
        x.setFuel(0, 200);
        x.begin(0, 0);
        int calls = 6;
        int given = 0;
        while (calls + 42 <= 500) {
            for (int answer = 1; answer <= 39; answer++) {
                due("answer " + given, x.answer(0, given % 10), ASKS);
                given++;
            }
            due("done again", woken(x, 0, 0), true);
            calls += 42;
        }
        due("all are kept", x.answers(0), given);
        due("the last", x.answerAt(0, given - 1), 1000 * (given / 39 - 1) + (given - 1) % 10);
        due("the first", x.answerAt(0, 0), 0);
        due("fuel", x.fuel(0), 197);
        due("fuel again", x.fuelAgain(0), 197);
        due("the next answer", x.answer(0, 5), ASKS);
    }

    // "Returns what a respondent has got in all."
    private static void rewardsOfAllForms() {
        AskMachine x = new AskMachine();
        int due = 0;
        x.setPrice(0, 1000);
        for (int form = 0; form <= 3; form++) {
            Given.publish(x, form, PAY, 1 + form, ASK, 0, FINISH, 0);
            x.fund(form, 2000);
            due("nothing for a begin", x.reward(15), due);
            x.begin(15, form);
            due("nothing ahead of an answer", x.reward(15), due);
            x.answer(form, 1);
            due += 1001 + form;
            due("price and bonus", x.reward(15), due);
        }
        due("another respondent", x.reward(0), 0);
    }

    // "Returns how many runs of a form are DONE for a panel."
    private static void doneOfEachPanel() {
        AskMachine x = Given.with(ASK, 0, ZERO, 3, FINISH, 0);
        for (int respondent = 0; respondent <= 15; respondent++) {
            x.begin(respondent, 0);
        }
        for (int panel = 0; panel <= 3; panel++) {
            due("none of panel " + panel, x.done(0, panel), 0);
            for (int run = panel; run <= 15; run += 4) {
                x.answer(run, run / 4 < panel ? 1 : 0);
            }
        }
        for (int panel = 0; panel <= 3; panel++) {
            due("those of panel " + panel, x.done(0, panel), panel);
            due("none of another form", x.done(3, panel), 0);
        }
    }
}
