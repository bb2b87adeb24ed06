import java.util.ArrayDeque;
import java.util.ArrayList;
import java.util.List;

/** The document told another way: a run is nothing but its beginning, its answers and its gates, and is done whole each time. */
final class Model {
    /** What doing a run comes to. */
    static final class Outcome {
        int state = -1;
        int fuel;
        int question = -1;
        int bonus;
        int[] slots = new int[8];
        ArrayDeque<Integer> stack = new ArrayDeque<>();
    }

    static final class Run {
        int respondent;
        int form;
        int version;
        int fuelAtStart;
        int[] wordings;
        int paid;
        boolean saved;
        boolean left;
        List<int[]> code;
        List<int[]> answers = new ArrayList<>();
        List<Boolean> barred = new ArrayList<>();
        Outcome outcome;

        int state() {
            return left ? 6 : saved ? 1 : outcome.state;
        }
    }

    final List<List<int[]>> drafts = new ArrayList<>();
    final List<List<List<int[]>>> versions = new ArrayList<>();
    final int[] fuels = {60, 60, 60, 60};
    final int[] budgets = new int[4];
    final int[][] quotas = new int[4][4];
    final int[] prices = new int[16];
    final int[] wordings = new int[16];
    final int[] rewards = new int[16];
    final List<Run> runs = new ArrayList<>();
    int repaid;

    Model() {
        for (int form = 0; form < 4; form++) {
            drafts.add(new ArrayList<>());
            versions.add(new ArrayList<>());
            quotas[form] = new int[] {20, 20, 20, 20};
        }
    }

    private static void index(int number, int size) {
        if (number < 0 || number >= size) {
            throw new IndexOutOfBoundsException();
        }
    }

    private static void range(int number, int least, int most) {
        if (number < least || number > most) {
            throw new IllegalArgumentException();
        }
    }

    private static void state(boolean fine) {
        if (!fine) {
            throw new IllegalStateException();
        }
    }

    int write(int form, int instruction, int argument) {
        index(form, 4);
        range(instruction, 0, 12);
        switch (instruction) {
            case 0: range(argument, 0, 15); break;
            case 1: range(argument, -99, 99); break;
            case 2: case 3: range(argument, 0, 7); break;
            case 8: case 9: range(argument, 0, 24); break;
            case 10: range(argument, 0, 500); break;
            default: range(argument, 0, 0); break;
        }
        state(drafts.get(form).size() < 24);
        drafts.get(form).add(new int[] {instruction, argument});
        return drafts.get(form).size();
    }

    int publish(int form) {
        index(form, 4);
        state(!drafts.get(form).isEmpty() && versions.get(form).size() < 6);
        versions.get(form).add(drafts.get(form));
        drafts.set(form, new ArrayList<>());
        return versions.get(form).size() - 1;
    }

    int setFuel(int form, int fuel) {
        index(form, 4);
        range(fuel, 1, 200);
        int before = fuels[form];
        fuels[form] = fuel;
        return before;
    }

    int fund(int form, int cents) {
        index(form, 4);
        range(cents, 1, 100000);
        return budgets[form] += cents;
    }

    int setQuota(int form, int panel, int most) {
        index(form, 4);
        index(panel, 4);
        range(most, 0, 20);
        int before = quotas[form][panel];
        quotas[form][panel] = most;
        return before;
    }

    int setPrice(int question, int cents) {
        index(question, 16);
        range(cents, 0, 1000);
        int before = prices[question];
        prices[question] = cents;
        return before;
    }

    int reword(int question) {
        index(question, 16);
        return ++wordings[question];
    }

    int begin(int respondent, int form) {
        index(respondent, 16);
        index(form, 4);
        state(!versions.get(form).isEmpty() && runs.size() < 24);
        for (Run run : runs) {
            state(run.respondent != respondent || run.form != form);
        }
        Run run = new Run();
        run.respondent = respondent;
        run.form = form;
        runs.add(run);
        startOver(run);
        return runs.size() - 1;
    }

    private void startOver(Run run) {
        run.version = versions.get(run.form).size() - 1;
        run.code = versions.get(run.form).get(run.version);
        run.fuelAtStart = fuels[run.form];
        run.wordings = wordings.clone();
        run.barred.clear();
        goOn(run);
    }

    int answer(int number, int value) {
        index(number, runs.size());
        range(value, 0, 9);
        Run run = runs.get(number);
        state(run.state() == 0);
        int question = run.outcome.question;
        state(budgets[run.form] >= prices[question]);
        run.answers.add(new int[] {question, run.wordings[question], value});
        run.paid += prices[question];
        budgets[run.form] -= prices[question];
        rewards[run.respondent] += prices[question];
        goOn(run);
        return run.state();
    }

    String save(int number) {
        index(number, runs.size());
        state(runs.get(number).state() == 0);
        runs.get(number).saved = true;
        return "saved";
    }

    boolean wake(int number) {
        index(number, runs.size());
        Run run = runs.get(number);
        state(run.state() == 1);
        run.saved = false;
        boolean again = versions.get(run.form).size() - 1 > run.version;
        for (int question = 0; question < 16; question++) {
            again |= run.wordings[question] != wordings[question] && nth(run, question, 1) >= 0;
        }
        if (again) {
            startOver(run);
        }
        return again;
    }

    int leave(int number) {
        index(number, runs.size());
        Run run = runs.get(number);
        state(run.state() == 0 || run.state() == 1);
        run.left = true;
        return run.paid;
    }

    private static int nth(Run run, int question, int n) {
        for (int[] answer : run.answers) {
            if (answer[0] == question && answer[1] == run.wordings[question] && --n == 0) {
                return answer[2];
            }
        }
        return -1;
    }

    int done(int form, int panel) {
        index(form, 4);
        index(panel, 4);
        int done = 0;
        for (Run run : runs) {
            if (run.form == form && run.respondent % 4 == panel && run.outcome != null && run.state() == 2) {
                done++;
            }
        }
        return done;
    }

    private void goOn(Run run) {
        run.outcome = null;
        run.outcome = outcome(run);
        if (run.outcome.state == 2) {
            int bonus = Math.min(run.outcome.bonus, budgets[run.form]);
            budgets[run.form] -= bonus;
            rewards[run.respondent] += bonus;
        }
        if (run.outcome.state == 4 || run.outcome.state == 5) {
            budgets[run.form] += run.paid;
            repaid += run.paid;
        }
    }

    /** Does the run whole: gates that it met before bar it as they did, and new ones are kept. */
    Outcome outcome(Run run) {
        Outcome o = new Outcome();
        o.fuel = run.fuelAtStart;
        int[] asked = new int[16];
        int gates = 0;
        int place = 0;
        while (true) {
            if (place >= run.code.size()) {
                o.state = 5;
                return o;
            }
            int instruction = run.code.get(place)[0];
            int argument = run.code.get(place)[1];
            if (o.fuel < (instruction == 0 ? 3 : 1)) {
                o.state = 4;
                return o;
            }
            o.fuel -= instruction == 0 ? 3 : 1;
            place++;
            int needs = needs(instruction);
            if (o.stack.size() < needs) {
                o.stack.clear();
                o.state = 5;
                return o;
            }
            int b = needs >= 1 ? o.stack.pop() : 0;
            int a = needs == 2 ? o.stack.pop() : 0;
            Integer put = null;
            switch (instruction) {
                case 0:
                    int value = nth(run, argument, ++asked[argument]);
                    if (value < 0) {
                        o.question = argument;
                        o.state = 0;
                        return o;
                    }
                    put = value;
                    break;
                case 1: put = argument; break;
                case 2: put = o.slots[argument]; break;
                case 3: o.slots[argument] = b; break;
                case 4: put = Math.max(-9999, Math.min(9999, a + b)); break;
                case 5: put = Math.max(-9999, Math.min(9999, a - b)); break;
                case 6: put = a < b ? 1 : 0; break;
                case 7: put = a == b ? 1 : 0; break;
                case 8: place = argument; break;
                case 9: place = b == 0 ? argument : place; break;
                case 10: o.bonus += argument; break;
                default:
                    if (gates == run.barred.size()) {
                        run.barred.add(done(run.form, run.respondent % 4) >= quotas[run.form][run.respondent % 4]);
                    }
                    boolean barred = run.barred.get(gates++);
                    if (barred || instruction == 12) {
                        o.state = barred ? 3 : 2;
                        return o;
                    }
                    break;
            }
            if (put != null) {
                if (o.stack.size() == 8) {
                    o.state = 5;
                    return o;
                }
                o.stack.push(put);
            }
        }
    }

    private static int needs(int instruction) {
        if (instruction >= 4 && instruction <= 7) {
            return 2;
        }
        return instruction == 3 || instruction == 9 ? 1 : 0;
    }

    int question(Run run) {
        return run.state() <= 1 || run.state() == 6 ? run.outcome.question : -1;
    }

    /** The same text as Checks.shown of an object with the same calls. */
    String shown() {
        List<Object> all = new ArrayList<>();
        all.add(repaid);
        for (int reward : rewards) {
            all.add(reward);
        }
        for (int form = 0; form < 4; form++) {
            all.add(budgets[form]);
            for (int panel = 0; panel < 4; panel++) {
                all.add(done(form, panel));
            }
        }
        all.add(runs.size());
        for (Run run : runs) {
            all.add(shown(run));
        }
        return all.toString();
    }

    private String shown(Run run) {
        List<Object> all = new ArrayList<>();
        Outcome o = run.outcome;
        all.add("state " + run.state() + " question " + question(run) + " version " + run.version);
        all.add("fuel " + o.fuel + " again " + o.fuel + " depth " + o.stack.size());
        for (int slot = 0; slot < 8; slot++) {
            all.add(o.slots[slot]);
            all.add(o.slots[slot]);
        }
        for (int[] answer : run.answers) {
            all.add(1000 * answer[1] + 10 * answer[0] + answer[2]);
        }
        return all.toString();
    }
}
