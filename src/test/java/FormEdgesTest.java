/** The sentences on forms and codes (promises 1 to 8) that name an edge, each with a test of its own. */
public final class FormEdgesTest {
    private static final int ASK = AskMachine.ASK, PUSH = AskMachine.PUSH, LOAD = AskMachine.LOAD, STORE = AskMachine.STORE;
    private static final int ADD = AskMachine.ADD, JUMP = AskMachine.JUMP, ZERO = AskMachine.ZERO, PAY = AskMachine.PAY;
    private static final int FINISH = AskMachine.FINISH;
    private static final int ASKS = AskMachine.ASKS, DONE = AskMachine.DONE, SCREENED = AskMachine.SCREENED;
    private static final int EXHAUSTED = AskMachine.EXHAUSTED, WRONG = AskMachine.WRONG;
    private static final int[] LEAST_ARGUMENT = {0, -99, 0, 0, 0, 0, 0, 0, 0, 0, 0, 0, 0};
    private static final int[] MOST_ARGUMENT = {15, 99, 7, 7, 0, 0, 0, 0, 24, 24, 500, 0, 0};

    public static void main(String[] args) {
        formsFrom0To3();
        questionsFrom0To15();
        respondentsFrom0To15();
        panelIsTheRemainder();
        withoutVersionsAndRuns();
        draftIsEmptyAtFirst();
        draftTakes24();
        draftOfOneInstruction();
        publishedDraftIsEmpty();
        versionsFrom0To5();
        refusedVersionLeavesTheDraft();
        fuelOf60AtFirst();
        budgetOf0AtFirst();
        priceOf0AtFirst();
        wordingOf0AtFirst();
        quotaOf20AtFirst();
        leastAndMostArguments();
        leastAndMostInstructionsWork();
        leastAndMostFuel();
        fuelFromNowOn();
        leastAndMostCents();
        fundsAreNeverTooMany();
        leastAndMostQuota();
        leastAndMostPrice();
        wordingOneMore();
        Checks.end();
    }

    private static void due(String what, Object got, Object want) {
        Checks.due(what, got, want);
    }

    // "There are the forms 0 to 3"
    private static void formsFrom0To3() {
        AskMachine x = new AskMachine();
        for (int form = 0; form <= 3; form++) {
            due("write to form " + form, x.write(form, ASK, form), 1);
            due("publish form " + form, x.publish(form), 0);
            due("fuel of form " + form, x.setFuel(form, 10 + form), 60);
            due("fund form " + form, x.fund(form, 100 + form), 100 + form);
            due("quota of form " + form, x.setQuota(form, 0, form), 20);
            due("begin form " + form, x.begin(0, form), form);
        }
        for (int form = 0; form <= 3; form++) {
            due("each has its code, " + form, x.question(form), form);
            due("each has its fuel, " + form, x.fuel(form), 7 + form);
            due("each has its budget, " + form, x.budget(form), 100 + form);
            due("each has its quotas, " + form, x.setQuota(form, 0, 20), form);
            due("each counts its own, " + form, x.done(form, 0), 0);
        }
    }

    // "and the questions 0 to 15"
    private static void questionsFrom0To15() {
        AskMachine x = new AskMachine();
        for (int question = 0; question <= 15; question++) {
            due("price of question " + question, x.setPrice(question, 100 + question), 0);
            for (int i = 0; i < question; i++) {
                x.reword(question);
            }
        }
        x.fund(0, 2000);
        for (int question = 0; question <= 15; question++) {
            x.write(0, ASK, question);
            x.write(0, STORE, 0);
            if (question % 8 == 7) {
                x.publish(0);
                x.begin(question / 8, 0);
            }
        }
        for (int question = 0; question <= 15; question++) {
            int run = question / 8;
            due("question " + question + " is asked", x.question(run), question);
            int before = x.reward(run);
            x.answer(run, 9);
            due("each has its price, " + question, x.reward(run) - before, 100 + question);
            due("each has its wording, " + question, x.answerAt(run, question % 8), 1000 * question + 10 * question + 9);
        }
    }

    // "Respondents are 0 to 15"
    private static void respondentsFrom0To15() {
        AskMachine x = Given.with(PAY, 1, ASK, 0, FINISH, 0);
        x.fund(0, 16);
        for (int respondent = 0; respondent <= 15; respondent++) {
            due("respondent " + respondent, x.begin(respondent, 0), respondent);
        }
        for (int respondent = 0; respondent <= 15; respondent += 15) {
            x.answer(respondent, 0);
            due("reward of respondent " + respondent, x.reward(respondent), 1);
        }
        due("and of no other", x.reward(1) + x.reward(14), 0);
    }

    // "the respondent r is of the panel that is the remainder of r by 4"
    private static void panelIsTheRemainder() {
        AskMachine x = Given.with(FINISH, 0);
        for (int respondent = 0; respondent <= 15; respondent++) {
            x.begin(respondent, 0);
            for (int panel = 0; panel <= 3; panel++) {
                int before = respondent / 4 + (panel < respondent % 4 ? 1 : 0);
                due("panel " + panel + " with " + respondent, x.done(0, panel), panel == respondent % 4 ? before + 1 : before);
            }
        }
    }

    // "A tool without versions and runs."
    private static void withoutVersionsAndRuns() {
        due("no runs", new AskMachine().runs(), 0);
        for (int form = 0; form <= 3; form++) {
            int f = form;
            Twins.refused("no version of form " + f, AskMachine::new, IllegalStateException.class, x -> x.begin(0, f));
        }
    }

    // "A form has a draft, which is a row of .. instructions, empty at first"
    private static void draftIsEmptyAtFirst() {
        for (int form = 0; form <= 3; form++) {
            int f = form;
            Twins.refused("the draft of form " + f, AskMachine::new, IllegalStateException.class, x -> x.publish(f));
            due("the first instruction of form " + f, new AskMachine().write(form, FINISH, 0), 1);
        }
    }

    // "a row of up to 24 instructions"; write returns "how many instructions the draft has then"
    private static void draftTakes24() {
        AskMachine x = new AskMachine();
        for (int length = 1; length <= 23; length++) {
            due("instruction " + length, x.write(2, PAY, length), length);
        }
        due("instruction 24", x.write(2, FINISH, 0), 24);
        Checks.state("instruction 25", x, () -> x.write(2, FINISH, 0));
        due("a draft of another form", x.write(1, FINISH, 0), 1);
        due("publish all 24", x.publish(2), 0);
        x.fund(2, 1000);
        x.begin(0, 2);
        due("the last of 24 is done", x.state(0), DONE);
        due("all of 24 are done", x.fuel(0), 36);
        due("each with its argument", x.reward(0), 276);
        Twins.refused("a 25th", FormEdgesTest::withAFullDraft, IllegalStateException.class, y -> y.write(0, FINISH, 0));
    }

    private static AskMachine withAFullDraft() {
        AskMachine x = new AskMachine();
        for (int i = 0; i < 24; i++) {
            x.write(0, PAY, i);
        }
        return x;
    }

    // publish is refused "if the draft is empty", so not with one
    private static void draftOfOneInstruction() {
        AskMachine x = new AskMachine();
        x.write(0, FINISH, 0);
        due("publish one", x.publish(0), 0);
        x.begin(0, 0);
        due("it is done", x.state(0), DONE);
        due("it costs 1", x.fuel(0), 59);
    }

    // "to publish makes the draft the next version, and leaves it empty"
    private static void publishedDraftIsEmpty() {
        AskMachine x = withAFullDraft();
        x.write(1, PAY, 0);
        x.publish(0);
        Checks.state("the draft is empty", x, () -> x.publish(0));
        due("and takes a first one", x.write(0, FINISH, 0), 1);
        due("the draft of another form is left", x.write(1, FINISH, 0), 2);
        due("the next version", x.publish(0), 1);
        x.begin(0, 0);
        due("has nothing of the one before", x.fuel(0), 59);
        due("its state", x.state(0), DONE);
    }

    // "up to 6 versions, numbered from 0"
    private static void versionsFrom0To5() {
        AskMachine x = new AskMachine();
        for (int version = 0; version <= 5; version++) {
            due("version " + version, Given.publish(x, 3, ASK, version), version);
            x.begin(version, 3);
            due("is what a run gets, " + version, x.version(version), version);
        }
        Checks.state("a 7th with an empty draft", x, () -> x.publish(3));
        x.write(3, FINISH, 0);
        Checks.state("a 7th", x, () -> x.publish(3));
        due("version 0 of another form", Given.publish(x, 2, FINISH, 0), 0);
        x.begin(6, 3);
        due("a run gets the 6th still", x.version(6), 5);
        for (int version = 0; version <= 5; version++) {
            due("each run has its code, " + version, x.question(version), version);
        }
    }

    // "A call that throws changes nothing", to a draft that can't be published
    private static void refusedVersionLeavesTheDraft() {
        AskMachine x = new AskMachine();
        for (int version = 0; version <= 5; version++) {
            Given.publish(x, 0, ASK, version);
        }
        due("write behind the 6th", x.write(0, FINISH, 0), 1);
        Checks.state("a 7th", x, () -> x.publish(0));
        for (int length = 2; length <= 24; length++) {
            due("its draft goes on", x.write(0, FINISH, 0), length);
        }
        Checks.state("to its end", x, () -> x.write(0, FINISH, 0));
    }

    // "A form has the fuel that its runs begin with, 60 at first"
    private static void fuelOf60AtFirst() {
        for (int form = 0; form <= 3; form++) {
            AskMachine x = new AskMachine();
            Given.publish(x, form, ASK, 0);
            x.begin(0, form);
            due("fuel of a run of form " + form, x.fuel(0), 57);
            due("fuel before", x.setFuel(form, 60), 60);
        }
    }

    // "and a budget in cents, 0 at first"
    private static void budgetOf0AtFirst() {
        for (int form = 0; form <= 3; form++) {
            AskMachine x = new AskMachine();
            due("budget of form " + form, x.budget(form), 0);
            Given.publish(x, form, PAY, 1, FINISH, 0);
            x.begin(0, form);
            due("no bonus from it", x.reward(0), 0);
            due("it stays 0", x.budget(form), 0);
        }
    }

    // "A question has a price in cents, 0 at first"
    private static void priceOf0AtFirst() {
        for (int question = 0; question <= 15; question++) {
            AskMachine x = Given.begun(ASK, question, FINISH, 0);
            due("an answer without a budget, " + question, x.answer(0, 5), DONE);
            due("nothing is paid", x.reward(0), 0);
            due("price before", x.setPrice(question, 0), 0);
        }
    }

    // "and a wording, which has the number 0 at first"
    private static void wordingOf0AtFirst() {
        for (int question = 0; question <= 15; question++) {
            AskMachine x = Given.begun(ASK, question, FINISH, 0);
            x.answer(0, 5);
            due("the answer's wording, " + question, x.answerAt(0, 0), 10 * question + 5);
            due("the number then", x.reword(question), 1);
        }
    }

    // "A form has a quota for each panel, 20 at first"
    private static void quotaOf20AtFirst() {
        AskMachine x = new AskMachine();
        for (int form = 0; form <= 3; form++) {
            for (int panel = 0; panel <= 3; panel++) {
                due("quota of form " + form + ", panel " + panel, x.setQuota(form, panel, panel), 20);
            }
            for (int panel = 0; panel <= 3; panel++) {
                due("each panel has its own", x.setQuota(form, panel, 20), panel);
            }
        }
        Given.publish(x, 0, FINISH, 0);
        for (int respondent = 0; respondent <= 15; respondent++) {
            x.begin(respondent, 0);
            due("it bars none of 16", x.state(respondent), DONE);
        }
    }

    // "0 to 15 for ASK; -99 to 99 for PUSH; 0 to 7 for LOAD and STORE; 0 to 24 for JUMP and ZERO; 0 to 500 for PAY; 0 for the others"
    private static void leastAndMostArguments() {
        for (int instruction = ASK; instruction <= FINISH; instruction++) {
            int i = instruction;
            AskMachine x = new AskMachine();
            int length = 0;
            for (int argument : new int[] {LEAST_ARGUMENT[i], (LEAST_ARGUMENT[i] + MOST_ARGUMENT[i]) / 2, MOST_ARGUMENT[i]}) {
                length++;
                due("instruction " + i + " with " + argument, x.write(0, i, argument), length);
            }
            Checks.argument("instruction " + i + ", below", x, () -> x.write(0, i, LEAST_ARGUMENT[i] - 1));
            Checks.argument("instruction " + i + ", above", x, () -> x.write(0, i, MOST_ARGUMENT[i] + 1));
            due("nothing was written by these", x.write(0, i, LEAST_ARGUMENT[i]), length + 1);
        }
    }

    // The same: what is taken is what the machine then has.
    private static void leastAndMostInstructionsWork() {
        due("PUSH -99", Given.begun(PUSH, -99, STORE, 0, FINISH, 0).slot(0, 0), -99);
        due("PUSH 99", Given.begun(PUSH, 99, STORE, 0, FINISH, 0).slot(0, 0), 99);
        due("STORE 7", Given.begun(PUSH, 5, STORE, 7, FINISH, 0).slot(0, 7), 5);
        due("LOAD 0", Given.begun(PUSH, 5, STORE, 0, LOAD, 0, STORE, 1, FINISH, 0).slot(0, 1), 5);
        due("LOAD 7", Given.begun(PUSH, 5, STORE, 7, LOAD, 7, STORE, 1, FINISH, 0).slot(0, 1), 5);
        due("ASK 0", Given.begun(ASK, 0).question(0), 0);
        due("ASK 15", Given.begun(ASK, 15).question(0), 15);
        AskMachine x = Given.with(PAY, 0, PAY, 500, FINISH, 0);
        x.fund(0, 1000);
        x.begin(0, 0);
        due("PAY 0 and 500", x.reward(0), 500);
        due("JUMP 0", Given.begun(ASK, 3, JUMP, 0).answer(0, 1), ASKS);
        due("JUMP 24", Given.begun(JUMP, 24).state(0), WRONG);
        due("ZERO 0", Given.begun(ASK, 3, ZERO, 0, FINISH, 0).answer(0, 0), ASKS);
        due("ZERO 24", Given.begun(ASK, 3, ZERO, 24, FINISH, 0).answer(0, 0), WRONG);
    }

    // "fuel: 1 to 200"; setFuel returns "the fuel before"
    private static void leastAndMostFuel() {
        AskMachine x = Given.with(JUMP, 0);
        Checks.argument("fuel 0", x, () -> x.setFuel(0, 0));
        due("fuel 1", x.setFuel(0, 1), 60);
        x.begin(0, 0);
        due("one instruction is done", x.fuel(0), 0);
        Checks.argument("fuel 201", x, () -> x.setFuel(0, 201));
        due("fuel 200", x.setFuel(0, 200), 1);
        due("fuel before", x.setFuel(0, 200), 200);
        due("fuel of another form", x.setFuel(3, 1), 60);
        AskMachine y = Given.with(LOAD, 0, PUSH, 1, ADD, 0, STORE, 0, JUMP, 0);
        y.setFuel(0, 200);
        y.begin(0, 0);
        due("all of 200 is used", y.fuel(0), 0);
        due("by 200 instructions", y.slot(0, 0), 40);
        due("then it ends", y.state(0), EXHAUSTED);
    }

    // "Sets the fuel that runs of a form begin with from now on, or are done again with."
    private static void fuelFromNowOn() {
        AskMachine x = Given.begun(ASK, 0, ASK, 1, FINISH, 0);
        x.setFuel(0, 3);
        due("a run that began keeps its fuel", x.fuel(0), 57);
        due("and has it when it goes on", x.answer(0, 1), ASKS);
        due("with what is left", x.fuel(0), 54);
        x.begin(1, 0);
        due("a later run has the new", x.fuel(1), 0);
        x.save(0);
        due("woken as it was", x.wake(0), false);
        due("it keeps its fuel", x.fuel(0), 54);
        x.save(0);
        x.reword(0);
        due("done again", x.wake(0), true);
        due("with the new", x.fuel(0), 0);
        x.setFuel(0, 5);
        x.save(1);
        Given.publish(x, 0, ASK, 2);
        due("done again for a version", x.wake(1), true);
        due("with the newest", x.fuel(1), 2);
    }

    // "cents: 1 to 100000"; fund returns "the budget then"
    private static void leastAndMostCents() {
        AskMachine x = new AskMachine();
        Checks.argument("fund 0", x, () -> x.fund(1, 0));
        due("fund 1", x.fund(1, 1), 1);
        due("budget", x.budget(1), 1);
        due("fund 100000", x.fund(1, 100000), 100001);
        due("fund 100000 again", x.fund(1, 100000), 200001);
        Checks.argument("fund 100001", x, () -> x.fund(1, 100001));
        due("budget then", x.budget(1), 200001);
        due("budget of another form", x.budget(0), 0);
    }

    // 512 calls fund 51200000 at most: an int holds all of it
    private static void fundsAreNeverTooMany() {
        AskMachine x = new AskMachine();
        for (int call = 1; call <= 511; call++) {
            due("fund " + call, x.fund(0, 100000), 100000 * call);
        }
        due("budget in the 512th call", x.budget(0), 51100000);
    }

    // "runs: 0 to 20"; setQuota returns "the quota before"
    private static void leastAndMostQuota() {
        AskMachine x = Given.with(FINISH, 0);
        Checks.argument("quota -1", x, () -> x.setQuota(0, 3, -1));
        due("quota 0", x.setQuota(0, 3, 0), 20);
        x.begin(3, 0);
        due("none may be DONE", x.state(0), SCREENED);
        Checks.argument("quota 21", x, () -> x.setQuota(0, 3, 21));
        due("quota 20", x.setQuota(0, 3, 20), 0);
        x.begin(7, 0);
        due("then one may", x.state(1), DONE);
        due("quota before", x.setQuota(0, 3, 20), 20);
        due("quota of panel 0", x.setQuota(0, 0, 20), 20);
    }

    // "cents: 0 to 1000"; setPrice returns "the price before"
    private static void leastAndMostPrice() {
        AskMachine x = Given.begun(ASK, 0, ASK, 0, FINISH, 0);
        x.fund(0, 1001);
        Checks.argument("price -1", x, () -> x.setPrice(0, -1));
        Checks.argument("price 1001", x, () -> x.setPrice(0, 1001));
        due("price 1000", x.setPrice(0, 1000), 0);
        x.answer(0, 1);
        due("is paid", x.reward(0), 1000);
        due("price 0", x.setPrice(0, 0), 1000);
        x.answer(0, 1);
        due("nothing is paid", x.reward(0), 1000);
        due("budget", x.budget(0), 1);
        due("price before", x.setPrice(0, 1), 0);
    }

    // "to word it anew makes that 1 more"; reword returns "the number of its wording then"
    private static void wordingOneMore() {
        AskMachine x = new AskMachine();
        for (int wording = 1; wording <= 100; wording++) {
            due("question 0", x.reword(0), wording);
        }
        due("question 15", x.reword(15), 1);
        Given.publish(x, 0, ASK, 0, FINISH, 0);
        x.begin(0, 0);
        x.answer(0, 9);
        due("an answer with it", x.answerAt(0, 0), 100009);
    }
}
