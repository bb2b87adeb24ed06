/** The sentences on the machine that name an edge, each with a test of its own. */
public final class MachineEdgesTest {
    private static final int ASK = AskMachine.ASK, PUSH = AskMachine.PUSH, LOAD = AskMachine.LOAD, STORE = AskMachine.STORE;
    private static final int ADD = AskMachine.ADD, MINUS = AskMachine.MINUS, LESS = AskMachine.LESS, EQUAL = AskMachine.EQUAL;
    private static final int JUMP = AskMachine.JUMP, ZERO = AskMachine.ZERO, PAY = AskMachine.PAY, GATE = AskMachine.GATE;
    private static final int FINISH = AskMachine.FINISH;
    private static final int ASKS = AskMachine.ASKS, DONE = AskMachine.DONE, SCREENED = AskMachine.SCREENED;
    private static final int EXHAUSTED = AskMachine.EXHAUSTED, WRONG = AskMachine.WRONG;
    private static final int[] EIGHT = Given.times(8, PUSH, 6);

    public static void main(String[] args) {
        slotsAre0AtFirst();
        slotsFrom0To7();
        instructionsCost1AndAnAsk3();
        noInstructionAtThePlace();
        noInstructionAheadOfNoFuel();
        fuelLessThanTheCost();
        fuelLessThanAnAskCosts();
        noFuelAheadOfWhatIsWrong();
        loopsEnd();
        stackOfAtMost8();
        fullStackGives();
        emptyStack();
        stackOfOneForTwo();
        nothingIsStoredFromTheEmptyStack();
        asksWithAFullStack();
        foundAnswerOntoAFullStack();
        nAnswersForTheNthAsk();
        oneAnswerTooFew();
        eachQuestionIsCounted();
        sumsAreHeld();
        differencesAreHeld();
        lessIsNotTheSame();
        equalIsTheSame();
        takesBAndThenA();
        jumpsToEachPlace();
        zeroJumpsFor0Alone();
        bonusGrows();
        bonusGrowsByPayAlone();
        gateAtTheQuota();
        gateWithAQuotaOf0();
        gateOfThePanelAndTheForm();
        gateCountsWhoAreDone();
        finishAtTheQuota();
        bonusOfWhatIsLeft();
        bonusBehindThePrice();
        noBonusWithoutDone();
        Checks.end();
    }

    private static void due(String what, Object got, Object want) {
        Checks.due(what, got, want);
    }

    private static AskMachine fuelled(int fuel, int... code) {
        AskMachine x = Given.with(code);
        x.setFuel(0, fuel);
        x.begin(0, 0);
        return x;
    }

    // "the slots 0 to 7, which are 0 at first"
    private static void slotsAre0AtFirst() {
        AskMachine x = Given.begun(ASK, 0);
        for (int slot = 0; slot <= 7; slot++) {
            due("slot " + slot, x.slot(0, slot), 0);
            due("slot again " + slot, x.slotAgain(0, slot), 0);
            due("loaded from slot " + slot, Given.begun(LOAD, slot, ZERO, 3, ADD, 0, FINISH, 0).state(0), DONE);
        }
    }

    // The same: each of the eight is one of its own.
    private static void slotsFrom0To7() {
        int[] code = {};
        for (int slot = 0; slot <= 7; slot++) {
            code = Given.joined(code, PUSH, 90 + slot, STORE, slot);
        }
        AskMachine x = Given.begun(Given.joined(code, LOAD, 0, LOAD, 7, STORE, 0, STORE, 7, ASK, 0));
        due("slot 0 from 7", x.slot(0, 0), 97);
        due("slot 7 from 0", x.slot(0, 7), 90);
        due("slot 7 again", x.slotAgain(0, 7), 90);
        for (int slot = 1; slot <= 6; slot++) {
            due("slot " + slot, x.slot(0, slot), 90 + slot);
            due("slot again " + slot, x.slotAgain(0, slot), 90 + slot);
        }
    }

    // "To do an instruction costs 1 of the fuel, an ASK 3."
    private static void instructionsCost1AndAnAsk3() {
        for (int instruction = ASK; instruction <= FINISH; instruction++) {
            int argument = instruction == JUMP || instruction == ZERO ? 3 : 0;
            int cost = instruction == ASK ? 3 : 1;
            AskMachine x = Given.begun(PUSH, 0, PUSH, 0, instruction, argument);
            due("cost of " + instruction, 58 - x.fuel(0), cost);
            due("again", 58 - x.fuelAgain(0), cost);
        }
        AskMachine found = Given.begun(ASK, 0, ASK, 1);
        found.answer(0, 1);
        found.save(0);
        Given.publish(found, 0, ASK, 0, ASK, 1);
        due("done again", found.wake(0), true);
        due("an ASK costs 3 also if its answer is found", found.fuel(0), 54);
    }

    // "if there is no instruction at its place, it does wrong: it ends WRONG"
    private static void noInstructionAtThePlace() {
        due("the last place", Given.begun(JUMP, 2, ADD, 0, FINISH, 0).state(0), DONE);
        AskMachine behind = Given.begun(JUMP, 3, ADD, 0, FINISH, 0);
        due("the place behind it", behind.state(0), WRONG);
        due("costs nothing", behind.fuel(0), 59);
        due("nor again", behind.fuelAgain(0), 59);
        due("the place 24", Given.begun(JUMP, 24, ADD, 0, FINISH, 0).state(0), WRONG);
        int[] full = Given.times(23, PAY, 0);
        due("the place 23 of a full form", Given.begun(Given.joined(full, FINISH, 0)).state(0), DONE);
        AskMachine over = Given.begun(Given.joined(full, PAY, 0));
        due("the place 24 behind a full form", over.state(0), WRONG);
        due("with all 24 done", over.fuel(0), 36);
        AskMachine answered = Given.begun(ASK, 0);
        due("nothing behind the ASK", answered.answer(0, 1), WRONG);
        due("its answer is on the stack", answered.depth(0), 1);
    }

    // The same stands ahead of "if its fuel is less than what the instruction costs".
    private static void noInstructionAheadOfNoFuel() {
        due("no instruction, no fuel", fuelled(1, PAY, 0).state(0), WRONG);
        due("no instruction behind an ASK, no fuel", fuelled(3, ASK, 0).answer(0, 1), WRONG);
    }

    // "if its fuel is less than what the instruction costs, it ends EXHAUSTED; otherwise the fuel is less by that"
    private static void fuelLessThanTheCost() {
        for (int instruction = PUSH; instruction <= FINISH; instruction++) {
            int argument = instruction == JUMP || instruction == ZERO ? 3 : 0;
            AskMachine less = fuelled(2, PUSH, 5, PUSH, 5, instruction, argument, ASK, 0);
            due("no fuel for " + instruction, less.state(0), EXHAUSTED);
            due("none is left", less.fuel(0), 0);
            due("none is left again", less.fuelAgain(0), 0);
            due("it was not done", less.depth(0), 2);
            due("nor stored", less.slot(0, 0), 0);
            AskMachine just = fuelled(3, PUSH, 5, PUSH, 5, instruction, argument, ASK, 0);
            due("just the fuel for " + instruction, just.state(0), instruction == FINISH ? DONE : EXHAUSTED);
            due("none is left then", just.fuel(0), 0);
            int[] depths = {0, 3, 3, 1, 1, 1, 1, 1, 2, 1, 2, 2, 2};
            due("it was done", just.depth(0), depths[instruction]);
        }
    }

    // The same for an ASK, which costs 3.
    private static void fuelLessThanAnAskCosts() {
        for (int left = 0; left <= 3; left++) {
            AskMachine x = fuelled(1 + left, PUSH, 0, ASK, 9, FINISH, 0);
            due("an ASK with " + left, x.state(0), left == 3 ? ASKS : EXHAUSTED);
            due("fuel", x.fuel(0), left == 3 ? 0 : left);
            due("fuel again", x.fuelAgain(0), left == 3 ? 0 : left);
            due("question", x.question(0), left == 3 ? 9 : AskMachine.NONE);
        }
        AskMachine x = fuelled(5, ASK, 0, ASK, 0, FINISH, 0);
        due("a second ASK with 2", x.answer(0, 1), EXHAUSTED);
        due("2 are left", x.fuel(0), 2);
        due("the answer is on the stack", x.depth(0), 1);
        AskMachine y = fuelled(6, ASK, 0, ASK, 0, FINISH, 0);
        due("a second ASK with 3", y.answer(0, 1), ASKS);
        due("an answer without fuel for the next", y.answer(0, 1), EXHAUSTED);
    }

    // "then the instruction is done": what it would do wrong comes behind the fuel
    private static void noFuelAheadOfWhatIsWrong() {
        due("nothing to take, no fuel", fuelled(1, PAY, 0, STORE, 0).state(0), EXHAUSTED);
        due("a full stack, no fuel", fuelled(8, Given.joined(EIGHT, PUSH, 0)).state(0), EXHAUSTED);
        due("a full stack, 1 left", fuelled(9, Given.joined(EIGHT, PUSH, 0)).state(0), WRONG);
        AskMachine x = Given.with(PAY, 0, GATE, 0);
        x.setFuel(0, 1);
        x.setQuota(0, 0, 0);
        x.begin(0, 0);
        due("a closed gate, no fuel", x.state(0), EXHAUSTED);
        AskMachine y = Given.with(FINISH, 0);
        y.setFuel(0, 1);
        y.begin(0, 0);
        due("a FINISH with the last fuel", y.state(0), DONE);
        due("it counts", y.done(0, 0), 1);
    }

    // The same: a jump to itself ends, at the greatest fuel too.
    private static void loopsEnd() {
        due("a loop of one", fuelled(200, JUMP, 0).state(0), EXHAUSTED);
        due("with 0 left", fuelled(200, JUMP, 0).fuel(0), 0);
        due("with 0 left again", fuelled(200, JUMP, 0).fuelAgain(0), 0);
        AskMachine asking = fuelled(200, ASK, 0, STORE, 0, JUMP, 0);
        for (int answer = 1; answer <= 39; answer++) {
            due("answer " + answer, asking.answer(0, 1), ASKS);
        }
        due("the 40th", asking.answer(0, 1), EXHAUSTED);
        due("fuel", asking.fuel(0), 0);
        due("fuel again", asking.fuelAgain(0), 0);
        due("all are kept", asking.answers(0), 40);
    }

    // "a stack of at most 8 numbers"; "puts one on a stack of 8, does wrong"
    private static void stackOfAtMost8() {
        due("eight", Given.begun(Given.joined(EIGHT, FINISH, 0)).state(0), DONE);
        due("depth of eight", Given.begun(Given.joined(EIGHT, FINISH, 0)).depth(0), 8);
        for (int instruction = PUSH; instruction <= LOAD; instruction++) {
            AskMachine x = Given.begun(Given.joined(EIGHT, instruction, 0, FINISH, 0));
            due("a ninth by " + instruction, x.state(0), WRONG);
            due("depth", x.depth(0), 8);
            due("its fuel is gone", x.fuel(0), 51);
            due("its fuel is gone again", x.fuelAgain(0), 51);
            AskMachine seven = Given.begun(Given.joined(Given.times(7, PUSH, 0), instruction, 0, FINISH, 0));
            due("an eighth by " + instruction, seven.state(0), DONE);
        }
    }

    // The same: what takes from 8 leaves room.
    private static void fullStackGives() {
        for (int instruction = ADD; instruction <= EQUAL; instruction++) {
            AskMachine x = Given.begun(Given.joined(EIGHT, instruction, 0, ASK, 0));
            due("of 8 by " + instruction, x.depth(0), 7);
            due("and goes on", x.state(0), ASKS);
        }
        due("STORE of 8", Given.begun(Given.joined(EIGHT, STORE, 0, PUSH, 1, FINISH, 0)).depth(0), 8);
        due("ZERO of 8", Given.begun(Given.joined(EIGHT, ZERO, 24, PUSH, 1, FINISH, 0)).depth(0), 8);
        for (int instruction : new int[] {JUMP, PAY, GATE, FINISH}) {
            due("a full stack with " + instruction, Given.begun(Given.joined(EIGHT, instruction, instruction == JUMP ? 9 : 0, FINISH, 0)).state(0), DONE);
        }
    }

    // "What takes a number from the empty stack .. does wrong"
    private static void emptyStack() {
        for (int instruction : new int[] {STORE, ADD, MINUS, LESS, EQUAL, ZERO}) {
            due("nothing for " + instruction, Given.begun(instruction, 0, FINISH, 0).state(0), WRONG);
            due("nothing for it behind a number that is taken", Given.begun(PUSH, 0, STORE, 0, instruction, 0, FINISH, 0).state(0), WRONG);
            due("depth", Given.begun(instruction, 0, FINISH, 0).depth(0), 0);
            due("its fuel is gone", Given.begun(instruction, 0, FINISH, 0).fuel(0), 59);
        }
        for (int instruction : new int[] {LOAD, JUMP, PAY, GATE, FINISH}) {
            due("nothing is needed for " + instruction, Given.begun(instruction, instruction == JUMP ? 1 : 0, FINISH, 0).state(0), DONE);
        }
    }

    // "what it took ahead of that is gone from the stack"
    private static void stackOfOneForTwo() {
        for (int instruction = ADD; instruction <= EQUAL; instruction++) {
            AskMachine one = Given.begun(PUSH, 1, instruction, 0, FINISH, 0);
            due("one for " + instruction, one.state(0), WRONG);
            due("it is gone", one.depth(0), 0);
            AskMachine two = Given.begun(PUSH, 1, PUSH, 1, instruction, 0, FINISH, 0);
            due("two for " + instruction, two.state(0), DONE);
            due("they are one", two.depth(0), 1);
        }
    }

    // The same: the slot and the place are left alone.
    private static void nothingIsStoredFromTheEmptyStack() {
        AskMachine x = Given.begun(PUSH, 4, STORE, 0, STORE, 0, FINISH, 0);
        due("wrong", x.state(0), WRONG);
        due("the slot stays", x.slot(0, 0), 4);
        due("the slot stays again", x.slotAgain(0, 0), 4);
        due("a ZERO with nothing does not jump", Given.begun(ZERO, 2, FINISH, 0, FINISH, 0).state(0), WRONG);
    }

    // "Otherwise the run waits for an answer, also if the stack is full: it ASKS."
    private static void asksWithAFullStack() {
        AskMachine x = Given.begun(Given.joined(EIGHT, ASK, 2, FINISH, 0));
        due("it asks", x.state(0), ASKS);
        due("its question", x.question(0), 2);
        due("depth", x.depth(0), 8);
        due("fuel", x.fuel(0), 49);
        x.save(0);
        due("it wakes", x.wake(0), false);
        due("the answer is put on 8", x.answer(0, 1), WRONG);
        due("it is kept", x.answerAt(0, 0), 21);
        due("depth then", x.depth(0), 8);
        due("seven and the answer", Given.begun(Given.joined(Given.times(7, PUSH, 0), ASK, 2, FINISH, 0)).answer(0, 1), DONE);
    }

    // The same: with an answer, it is put on the stack, and does wrong there.
    private static void foundAnswerOntoAFullStack() {
        AskMachine x = Given.begun(ASK, 2, ASK, 3);
        x.fund(0, 10);
        x.setPrice(2, 10);
        x.answer(0, 1);
        x.save(0);
        Given.publish(x, 0, Given.joined(EIGHT, ASK, 2, FINISH, 0));
        due("done again", x.wake(0), true);
        due("wrong", x.state(0), WRONG);
        due("depth", x.depth(0), 8);
        due("fuel", x.fuel(0), 49);
        due("repaid", x.repaid(), 10);
        AskMachine y = Given.begun(ASK, 2, ASK, 3);
        y.answer(0, 1);
        y.save(0);
        Given.publish(y, 0, Given.joined(EIGHT, ASK, 3, FINISH, 0));
        y.wake(0);
        due("without an answer it asks", y.state(0), ASKS);
        AskMachine z = Given.begun(ASK, 2, ASK, 3);
        z.answer(0, 1);
        z.save(0);
        Given.publish(z, 0, Given.joined(Given.times(7, PUSH, 0), ASK, 2, FINISH, 0));
        z.wake(0);
        due("seven and the answer that is found", z.state(0), DONE);
    }

    /** A saved run with the answers 3, 1 and 2 to question 5. */
    private static AskMachine withThreeAnswers() {
        AskMachine x = Given.begun(ASK, 5, ASK, 5, ASK, 5, ASK, 6);
        x.answer(0, 3);
        x.answer(0, 1);
        x.answer(0, 2);
        x.save(0);
        return x;
    }

    // "If it is asked for the n-th time in this run .. and there are n answers .. the n-th of these, in the order in which they were given"
    private static void nAnswersForTheNthAsk() {
        AskMachine three = withThreeAnswers();
        Given.publish(three, 0, ASK, 5, STORE, 1, ASK, 5, STORE, 2, ASK, 5, STORE, 3, FINISH, 0);
        three.wake(0);
        due("three for three", three.state(0), DONE);
        due("the first", three.slot(0, 1), 3);
        due("the second", three.slot(0, 2), 1);
        due("the third", three.slot(0, 3), 2);
        AskMachine two = withThreeAnswers();
        Given.publish(two, 0, ASK, 5, STORE, 1, ASK, 5, STORE, 2, FINISH, 0);
        two.wake(0);
        due("two of three", two.state(0), DONE);
        due("the second of them", two.slot(0, 2), 1);
        due("all stay", two.answers(0), 3);
    }

    // "Otherwise the run waits"
    private static void oneAnswerTooFew() {
        AskMachine x = withThreeAnswers();
        Given.publish(x, 0, Given.times(5, ASK, 5, STORE, 0));
        x.wake(0);
        due("the fourth time", x.state(0), ASKS);
        due("behind the third", x.slot(0, 0), 2);
        due("its fuel", x.fuel(0), 60 - 12 - 3);
        x.answer(0, 9);
        due("the fifth time", x.state(0), ASKS);
        due("behind the fourth", x.slot(0, 0), 9);
        due("answers", x.answers(0), 4);
        due("the first time, without an answer", Given.begun(ASK, 5).state(0), ASKS);
        AskMachine y = withThreeAnswers();
        y.reword(5);
        y.wake(0);
        due("the first time, with older answers alone", y.question(0), 5);
        y.answer(0, 7);
        due("the second time, with one", y.question(0), 5);
        due("depth", y.depth(0), 1);
    }

    // "for the n-th time .. to it": other questions are counted for themselves
    private static void eachQuestionIsCounted() {
        AskMachine x = Given.begun(ASK, 0, STORE, 0, ASK, 15, STORE, 1, ASK, 0, STORE, 2, ASK, 15, STORE, 3, ASK, 7);
        for (int value = 1; value <= 4; value++) {
            x.answer(0, value);
        }
        x.save(0);
        Given.publish(x, 0, ASK, 15, STORE, 4, ASK, 15, STORE, 5, ASK, 0, STORE, 6, ASK, 0, STORE, 7, FINISH, 0);
        due("done again", x.wake(0), true);
        due("in another order", x.state(0), DONE);
        int[] due = {2, 4, 1, 3};
        for (int i = 0; i < 4; i++) {
            due("slot " + (4 + i), x.slot(0, 4 + i), due[i]);
        }
    }

    /** What is in slot 0 behind the code, which has 9999 (for 99) or -9999 (for -99) in slot 7. */
    private static int withFar(int seed, int... code) {
        int[] doubled = {
            PUSH, seed, STORE, 7, LOAD, 7, LOAD, 7, ADD, 0, STORE, 7, LOAD, 6, PUSH, 1, ADD, 0, STORE, 6,
            LOAD, 6, PUSH, 7, LESS, 0, ZERO, 15, JUMP, 2};
        AskMachine x = fuelled(200, Given.joined(doubled, Given.joined(code, STORE, 0, FINISH, 0)));
        due("it comes to its end", x.state(0), DONE);
        due("slot 0 again", x.slotAgain(0, 0), x.slot(0, 0));
        return x.slot(0, 0);
    }

    // "ADD puts a and b together .. held from -9999 to 9999"
    private static void sumsAreHeld() {
        due("the top", withFar(99, LOAD, 7), 9999);
        due("the top and 0", withFar(99, LOAD, 7, PUSH, 0, ADD, 0), 9999);
        due("the top and 1", withFar(99, LOAD, 7, PUSH, 1, ADD, 0), 9999);
        due("the top and -1", withFar(99, LOAD, 7, PUSH, -1, ADD, 0), 9998);
        due("9998 and 1", withFar(99, LOAD, 7, PUSH, -1, ADD, 0, PUSH, 1, ADD, 0), 9999);
        due("9998 and 2", withFar(99, LOAD, 7, PUSH, -1, ADD, 0, PUSH, 2, ADD, 0), 9999);
        due("twice the top", withFar(99, LOAD, 7, LOAD, 7, ADD, 0), 9999);
        due("the bottom", withFar(-99, LOAD, 7), -9999);
        due("the bottom and 0", withFar(-99, LOAD, 7, PUSH, 0, ADD, 0), -9999);
        due("the bottom and -1", withFar(-99, LOAD, 7, PUSH, -1, ADD, 0), -9999);
        due("the bottom and 1", withFar(-99, LOAD, 7, PUSH, 1, ADD, 0), -9998);
        due("-9998 and -1", withFar(-99, LOAD, 7, PUSH, 1, ADD, 0, PUSH, -1, ADD, 0), -9999);
        due("-9998 and -2", withFar(-99, LOAD, 7, PUSH, 1, ADD, 0, PUSH, -2, ADD, 0), -9999);
        due("twice the bottom", withFar(-99, LOAD, 7, LOAD, 7, ADD, 0), -9999);
    }

    // "MINUS a less b, each held from -9999 to 9999"
    private static void differencesAreHeld() {
        due("the top less 0", withFar(99, LOAD, 7, PUSH, 0, MINUS, 0), 9999);
        due("the top less -1", withFar(99, LOAD, 7, PUSH, -1, MINUS, 0), 9999);
        due("the top less 1", withFar(99, LOAD, 7, PUSH, 1, MINUS, 0), 9998);
        due("9998 less -1", withFar(99, LOAD, 7, PUSH, 1, MINUS, 0, PUSH, -1, MINUS, 0), 9999);
        due("0 less the top", withFar(99, PUSH, 0, LOAD, 7, MINUS, 0), -9999);
        due("-1 less the top", withFar(99, PUSH, -1, LOAD, 7, MINUS, 0), -9999);
        due("1 less the top", withFar(99, PUSH, 1, LOAD, 7, MINUS, 0), -9998);
        due("0 less the bottom", withFar(-99, PUSH, 0, LOAD, 7, MINUS, 0), 9999);
        due("1 less the bottom", withFar(-99, PUSH, 1, LOAD, 7, MINUS, 0), 9999);
        due("-1 less the bottom", withFar(-99, PUSH, -1, LOAD, 7, MINUS, 0), 9998);
        due("the bottom less 1", withFar(-99, LOAD, 7, PUSH, 1, MINUS, 0), -9999);
        due("the bottom less -1", withFar(-99, LOAD, 7, PUSH, -1, MINUS, 0), -9998);
        due("top less top", withFar(99, LOAD, 7, LOAD, 7, MINUS, 0), 0);
        due("bottom less top", withFar(-99, LOAD, 7, PUSH, 0, LOAD, 7, MINUS, 0, MINUS, 0), -9999);
        due("top less bottom", withFar(99, LOAD, 7, PUSH, 0, LOAD, 7, MINUS, 0, MINUS, 0), 9999);
    }

    private static int result(int a, int b, int instruction) {
        return Given.begun(PUSH, a, PUSH, b, instruction, 0, STORE, 0, FINISH, 0).slot(0, 0);
    }

    // "LESS 1 if a is less than b, otherwise 0"
    private static void lessIsNotTheSame() {
        due("4 and 5", result(4, 5, LESS), 1);
        due("5 and 5", result(5, 5, LESS), 0);
        due("6 and 5", result(6, 5, LESS), 0);
        due("-1 and 0", result(-1, 0, LESS), 1);
        due("0 and -1", result(0, -1, LESS), 0);
        due("the least and the greatest", result(-99, 99, LESS), 1);
        due("the greatest and the least", result(99, -99, LESS), 0);
    }

    // "EQUAL 1 if they are the same, otherwise 0"
    private static void equalIsTheSame() {
        due("4 and 5", result(4, 5, EQUAL), 0);
        due("5 and 5", result(5, 5, EQUAL), 1);
        due("6 and 5", result(6, 5, EQUAL), 0);
        due("0 and 0", result(0, 0, EQUAL), 1);
        due("-5 and 5", result(-5, 5, EQUAL), 0);
        due("-99 and -99", result(-99, -99, EQUAL), 1);
        due("the top is the top", withFar(99, LOAD, 7, LOAD, 7, PUSH, 1, ADD, 0, EQUAL, 0), 1);
        due("the top is not 9998", withFar(99, LOAD, 7, LOAD, 7, PUSH, 1, MINUS, 0, EQUAL, 0), 0);
    }

    // "take a number b, and then a number a"
    private static void takesBAndThenA() {
        due("MINUS", result(7, 3, MINUS), 4);
        due("MINUS below 0", result(3, 7, MINUS), -4);
        due("ADD", result(7, -3, ADD), 4);
        AskMachine x = Given.begun(PUSH, 9, PUSH, 7, PUSH, 3, MINUS, 0, STORE, 0, STORE, 1, FINISH, 0);
        due("what is under both stays", x.slot(0, 1), 9);
    }

    // "JUMP: the place becomes the argument"
    private static void jumpsToEachPlace() {
        for (int place = 1; place <= 23; place++) {
            int[] code = Given.times(24, ADD, 0);
            code[0] = JUMP;
            code[1] = place;
            code[2 * place] = FINISH;
            due("jump to " + place, Given.begun(code).state(0), DONE);
        }
        due("jump to itself", Given.begun(JUMP, 0, ADD, 0).state(0), EXHAUSTED);
        AskMachine back = Given.begun(ASK, 0, ZERO, 0, FINISH, 0);
        due("back to 0", back.answer(0, 0), ASKS);
        due("it asks a second time", back.answer(0, 1), DONE);
        due("with its fuel", back.fuel(0), 60 - 9);
    }

    // "ZERO: takes a number; if it is 0, the place becomes the argument"
    private static void zeroJumpsFor0Alone() {
        for (int number : new int[] {-99, -1, 0, 1, 99}) {
            AskMachine x = Given.begun(PUSH, 3, PUSH, number, ZERO, 4, ASK, 1, ASK, 2);
            due("ZERO of " + number, x.question(0), number == 0 ? 2 : 1);
            due("the number is taken", x.depth(0), 1);
        }
    }

    // "PAY: the bonus grows by the argument."; "no bonus" at first
    private static void bonusGrows() {
        AskMachine x = Given.with(Given.joined(Given.times(23, PAY, 500), FINISH, 0));
        x.fund(0, 100000);
        x.begin(0, 0);
        due("23 times 500", x.reward(0), 11500);
        Given.publish(x, 0, FINISH, 0);
        x.begin(1, 0);
        due("none without PAY", x.reward(1), 0);
        Given.publish(x, 0, PAY, 0, FINISH, 0);
        x.begin(2, 0);
        due("none for 0", x.reward(2), 0);
        Given.publish(x, 0, PAY, 1, PAY, 0, PAY, 2, FINISH, 0);
        x.begin(3, 0);
        due("1, 0 and 2", x.reward(3), 3);
        due("budget", x.budget(0), 88497);
        AskMachine loop = Given.with(PAY, 500, ASK, 0, ZERO, 0, FINISH, 0);
        loop.fund(0, 100000);
        loop.setFuel(0, 200);
        loop.begin(0, 0);
        for (int round = 1; round <= 38; round++) {
            loop.answer(0, 0);
        }
        due("the greatest number of rounds", loop.answer(0, 1), DONE);
        due("39 times 500", loop.reward(0), 19500);
    }

    // The same: no other instruction makes it grow.
    private static void bonusGrowsByPayAlone() {
        int[][] codes = {
            {PUSH, 99}, {LOAD, 7}, {PUSH, 1, STORE, 7}, {JUMP, 1}, {PUSH, 0, ZERO, 2}, {PUSH, 1, ZERO, 24}, {GATE, 0},
            {PUSH, 9, PUSH, 9, ADD, 0}, {PUSH, 9, PUSH, 9, MINUS, 0}, {PUSH, 8, PUSH, 9, LESS, 0}, {PUSH, 9, PUSH, 9, EQUAL, 0}};
        for (int[] code : codes) {
            AskMachine x = Given.with(Given.joined(code, FINISH, 0));
            x.fund(0, 1000);
            x.begin(0, 0);
            due("done behind " + code[code.length - 2], x.state(0), DONE);
            due("no bonus for " + code[code.length - 2], x.reward(0), 0);
        }
        AskMachine asked = Given.begun(ASK, 15, FINISH, 0);
        asked.fund(0, 1000);
        asked.answer(0, 9);
        due("no bonus for an answer", asked.reward(0), 0);
    }

    // "GATE: the run ends SCREENED if as many runs of the form as the quota tells are DONE .., or more."
    private static void gateAtTheQuota() {
        for (int quota = 1; quota <= 3; quota++) {
            AskMachine x = Given.with(GATE, 0, PUSH, 4, STORE, 0, FINISH, 0);
            for (int run = 0; run < 2; run++) {
                x.begin(4 * run, 0);
            }
            x.setQuota(0, 0, quota);
            x.begin(8, 0);
            due("2 are DONE, quota " + quota, x.state(2), quota <= 2 ? SCREENED : DONE);
            due("fuel", x.fuel(2), quota <= 2 ? 59 : 56);
            due("what is behind it is done or not", x.slot(2, 0), quota <= 2 ? 0 : 4);
            due("DONE then", x.done(0, 0), quota <= 2 ? 2 : 3);
        }
    }

    // The same with none DONE.
    private static void gateWithAQuotaOf0() {
        AskMachine x = Given.with(GATE, 0, ASK, 0);
        x.setQuota(0, 0, 0);
        x.begin(0, 0);
        due("quota 0, none DONE", x.state(0), SCREENED);
        x.setQuota(0, 0, 1);
        x.begin(4, 0);
        due("quota 1, none DONE", x.state(1), ASKS);
    }

    // "for the panel of the respondent", "of the form"
    private static void gateOfThePanelAndTheForm() {
        AskMachine x = Given.with(GATE, 0, FINISH, 0);
        Given.publish(x, 1, GATE, 0, FINISH, 0);
        x.begin(1, 0);
        x.begin(3, 0);
        x.begin(2, 1);
        x.setQuota(0, 2, 1);
        x.setQuota(0, 1, 0);
        x.setQuota(0, 3, 0);
        x.setQuota(1, 2, 0);
        x.begin(6, 0);
        due("others' quotas, and who is DONE there, don't bar", x.state(3), DONE);
        x.begin(10, 0);
        due("its own does", x.state(4), SCREENED);
    }

    // "are DONE": runs that end otherwise, or have not ended, are not counted
    private static void gateCountsWhoAreDone() {
        AskMachine x = Given.with(GATE, 0, ASK, 0, ZERO, 5, ASK, 1, FINISH, 0, ADD, 0);
        x.setQuota(0, 0, 1);
        x.begin(0, 0);
        x.answer(0, 0);
        due("one is WRONG", x.state(0), WRONG);
        x.begin(4, 0);
        x.leave(1);
        x.begin(8, 0);
        x.save(2);
        x.begin(12, 0);
        due("none is DONE", x.done(0, 0), 0);
        x.answer(3, 1);
        due("so the last is", x.answer(3, 1), DONE);
        due("one is DONE", x.done(0, 0), 1);
        x.wake(2);
        due("it goes on behind its gate", x.answer(2, 1), ASKS);
        due("to its FINISH", x.answer(2, 1), SCREENED);
        due("one is DONE still", x.done(0, 0), 1);
    }

    // "FINISH: the run ends SCREENED, if it is so as with GATE, otherwise DONE"
    private static void finishAtTheQuota() {
        for (int quota = 0; quota <= 3; quota++) {
            AskMachine x = Given.with(PUSH, 4, STORE, 0, FINISH, 0);
            x.begin(0, 0);
            x.begin(4, 0);
            x.setQuota(0, 0, quota);
            x.begin(8, 0);
            due("2 are DONE, quota " + quota, x.state(2), quota <= 2 ? SCREENED : DONE);
            due("fuel", x.fuel(2), 57);
            due("DONE then", x.done(0, 0), quota <= 2 ? 2 : 3);
        }
    }

    // "the bonus, but at most what is left of the budget of the form, goes from there to the respondent"
    private static void bonusOfWhatIsLeft() {
        for (int budget : new int[] {0, 1, 99, 100, 101}) {
            AskMachine x = Given.with(PAY, 100, FINISH, 0);
            if (budget > 0) {
                x.fund(0, budget);
            }
            x.fund(1, 1000);
            x.begin(0, 0);
            due("DONE with " + budget, x.state(0), DONE);
            due("reward of 100 with " + budget, x.reward(0), Math.min(100, budget));
            due("budget of " + budget, x.budget(0), Math.max(0, budget - 100));
            due("of another form", x.budget(1), 1000);
            due("nothing is repaid", x.repaid(), 0);
        }
    }

    // "what is left": the price of the last answer has gone ahead of it
    private static void bonusBehindThePrice() {
        AskMachine x = Given.with(PAY, 20, ASK, 0, FINISH, 0);
        x.setPrice(0, 10);
        x.fund(0, 25);
        x.begin(0, 0);
        due("the last answer", x.answer(0, 1), DONE);
        due("10 and 15", x.reward(0), 25);
        due("nothing is left", x.budget(0), 0);
    }

    // "otherwise DONE; then the bonus": no other end has one
    private static void noBonusWithoutDone() {
        for (int end : new int[] {GATE, FINISH, ADD, JUMP}) {
            AskMachine x = Given.with(PAY, 20, end, end == JUMP ? 1 : 0);
            x.fund(0, 100);
            x.setQuota(0, 0, 0);
            x.begin(0, 0);
            due("ended by " + end, x.state(0), end == ADD ? WRONG : end == JUMP ? EXHAUSTED : SCREENED);
            due("no bonus", x.reward(0), 0);
            due("budget", x.budget(0), 100);
        }
    }
}
