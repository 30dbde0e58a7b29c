/** What the tests share: comparing answers, telling a night, ending with the right exit code. */
final class Check {
    private static int calls = 0;
    private static int wrong = 0;

    private Check() {
    }

    static void due(String call, long got, long want) {
        calls++;
        if (got != want) {
            wrong++;
            System.out.println(call + " answered " + got + ", due is " + want);
        }
    }

    static void holds(String what, boolean is) {
        due(what, is ? 1 : 0, 1);
    }

    /** Says a whole text, sign by sign. */
    static void tell(BlindSown x, String text) {
        for (int i = 0; i < text.length(); i++) {
            if (x.say(text.charAt(i)) < 0) {
                holds("saying " + text, false);
            }
        }
    }

    /** Tells a night on an empty pad and has it done. */
    static int go(BlindSown x, String text) {
        x.wipe();
        tell(x, text);
        return x.night();
    }

    /** Puts a text in place of what is on the pad. */
    static void write(BlindSown x, String text) {
        x.wipe();
        tell(x, text);
    }

    static int faultOf(String text) {
        BlindSown x = new BlindSown();
        tell(x, text);
        return x.fault();
    }

    static void end() {
        System.out.println(calls + " answers looked at, " + wrong + " wrong");
        if (wrong != 0 || calls == 0) {
            System.exit(1);
        }
    }
}
