/** Counts the calls of one test whose answer is not the one that is due. */
final class Checks {
    private int calls = 0;
    private int wrong = 0;
    private String about = "";

    /** What is wrong from now on is printed as being about this. */
    void begin(String newAbout) {
        about = newAbout + ": ";
    }

    int calls() {
        return calls;
    }

    void due(String call, long got, long want) {
        calls++;
        if (got != want) {
            wrong++;
            System.out.println(about + call + " answered " + got + ", due is " + want);
        }
    }

    /** Says a text on the PAD, which must be taken sign by sign. */
    void tell(SaintsAhead x, String text) {
        int before = x.told(0);
        for (int i = 0; i < text.length(); i++) {
            due("say of sign " + i + " of " + text, x.say(text.charAt(i)), before + i + 1);
        }
    }

    void retell(SaintsAhead x, String text) {
        x.wipe();
        tell(x, text);
    }

    /** Years that can be, and are done. */
    void live(SaintsAhead x, String text, int acts) {
        retell(x, text);
        due("done of " + text, x.done(), acts);
    }

    void end() {
        System.out.println(calls + " calls, " + wrong + " answers not as due");
        if (wrong != 0) {
            System.exit(1);
        }
    }
}
