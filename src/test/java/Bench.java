/** What the tests share: texts written in words, and the count of wrong answers. */
final class Bench {
    private static final String[] OPS = {
        "NOTE", "ADD", "DIVIDE", "TIMES", "BREAK", "NEXT", "RETURN", "RAISE", "WRAP", "TRY", "LOCK", "ENTER", "LEAVE",
        "CALL", "ABOVE", "HELD", "CATCH", "LAST", "END"
    };

    private static int wrong = 0;
    private static int asked = 0;

    private Bench() {
    }

    static void due(String call, long got, long want) {
        asked++;
        if (got != want) {
            wrong++;
            System.out.println(call + " answered " + got + ", due is " + want);
        }
    }

    static void due(String what, boolean holds) {
        due(what + " (1 yes, 0 no)", holds ? 1 : 0, 1);
    }

    /** A new object whose procedures 0, 1 .. have these texts. */
    static EndingsLab lab(String... texts) {
        EndingsLab x = new EndingsLab();
        for (int p = 0; p < texts.length; p++) {
            write(x, p, texts[p]);
        }
        return x;
    }

    /** Appends the tokens of a text such as "TIMES 3 NOTE 1 END END"; a number that is left out is 0. */
    static void write(EndingsLab x, int procedure, String text) {
        String[] words = text.trim().split(" +");
        for (int i = 0; i < words.length; i++) {
            if (words[i].isEmpty()) {
                continue;
            }
            int op = opOf(words[i]);
            int a = 0;
            if (i + 1 < words.length && words[i + 1].matches("-?[0-9]+")) {
                a = Integer.parseInt(words[i + 1]);
                i++;
            }
            if (x.token(procedure, op, a) < 0) {
                throw new IllegalArgumentException("not taken: " + words[i] + " of " + text);
            }
        }
    }

    static void rewrite(EndingsLab x, int procedure, String text) {
        x.wipe(procedure);
        write(x, procedure, text);
    }

    private static int opOf(String word) {
        for (int op = 0; op < OPS.length; op++) {
            if (OPS[op].equals(word)) {
                return op;
            }
        }
        throw new IllegalArgumentException("no op: " + word);
    }

    /** The run is RETURNED and comes to a value. */
    static void returns(EndingsLab x, int procedure, int number, int want) {
        due("run(" + procedure + ", " + number + ")", x.run(procedure, number, false), EndingsLab.RETURNED);
        due("value() after run(" + procedure + ", " + number + ")", x.value(), want);
        due("fault(0) after RETURNED", x.fault(0), EndingsLab.REFUSED);
    }

    /** The run is RAISED, and these are the kinds of its fault and of all its causes. */
    static void raises(EndingsLab x, int procedure, int number, int... kinds) {
        due("run(" + procedure + ", " + number + ")", x.run(procedure, number, false), EndingsLab.RAISED);
        for (int k = 0; k < kinds.length; k++) {
            due("fault(" + k + ") after run(" + procedure + ", " + number + ")", x.fault(k), kinds[k]);
        }
        due("fault(" + kinds.length + ") behind the last cause", x.fault(kinds.length), EndingsLab.REFUSED);
    }

    /** The run is LATE, and its 300 steps are all that was begun. */
    static void late(EndingsLab x, int procedure, int number) {
        due("run(" + procedure + ", " + number + ")", x.run(procedure, number, false), EndingsLab.LATE);
        due("steps() after LATE", x.steps(), 300);
        due("fault(0) after LATE", x.fault(0), EndingsLab.REFUSED);
    }

    /** Items of just so many steps, 281 to 300, that change nothing; an END is still to come. */
    static String spending(int steps) {
        return "TIMES 5 TIMES 5 TIMES 5 ADD 0 ADD 0 END END END " + "ADD 0 ".repeat(steps - 281);
    }

    /** The newest events, the last one first, and no more than these. */
    static void noted(EndingsLab x, int... newest) {
        for (int i = 0; i < newest.length; i++) {
            due("event(" + i + ")", x.event(i), newest[i]);
        }
        due("events()", x.events(), newest.length);
    }

    static void finish(String test) {
        System.out.println(test + ": " + asked + " answers, " + wrong + " not as due");
        if (wrong != 0) {
            System.exit(1);
        }
    }
}
