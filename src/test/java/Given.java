/** What the tests begin with: codes, and objects that have them. */
final class Given {
    private Given() {
    }

    /** Writes the instructions, each with its argument, and publishes them. */
    static int publish(AskMachine x, int form, int... code) {
        for (int i = 0; i < code.length; i += 2) {
            x.write(form, code[i], code[i + 1]);
        }
        return x.publish(form);
    }

    /** A new object with a version of form 0. */
    static AskMachine with(int... code) {
        AskMachine x = new AskMachine();
        publish(x, 0, code);
        return x;
    }

    /** A new object with a run 0, of respondent 0 and form 0. */
    static AskMachine begun(int... code) {
        AskMachine x = with(code);
        x.begin(0, 0);
        return x;
    }

    /** The code so many times, one behind the other. */
    static int[] times(int times, int... code) {
        int[] all = new int[times * code.length];
        for (int i = 0; i < all.length; i++) {
            all[i] = code[i % code.length];
        }
        return all;
    }

    static int[] joined(int[] code, int... more) {
        int[] all = new int[code.length + more.length];
        System.arraycopy(code, 0, all, 0, code.length);
        System.arraycopy(more, 0, all, code.length, more.length);
        return all;
    }

    /** save() as a call that answers something. */
    static Object saved(AskMachine x, int run) {
        x.save(run);
        return "saved";
    }
}
