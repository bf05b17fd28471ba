import java.util.Arrays;

/** The edges of promises 7 to 12, and of 512 calls: above each test stands the sentence that it holds to. */
public final class AnswerEdgesTest {
    private static final int REFUSED = EndingsLab.REFUSED;
    private static final int WRONG = EndingsLab.WRONG;
    private static final int RETURNED = EndingsLab.RETURNED;
    private static final int RAISED = EndingsLab.RAISED;
    private static final int LATE = EndingsLab.LATE;
    private static final int MIN = Integer.MIN_VALUE;
    private static final int MAX = Integer.MAX_VALUE;
    private static final int CALLS = 512;

    /** Runs that are RETURNED (5 more than the number), RAISED (COLD by ZERO) and LATE; the fourth text is empty. */
    private static final String[] TEXTS = {
        "LOCK 0 NOTE 1 RETURN 5 END END",
        "LOCK 0 LOCK 1 TRY 1 NOTE 2 DIVIDE 0 END CATCH 6 WRAP 3 END END END END",
        "ENTER 0 ENTER 1 LOCK 2 NOTE 3 TIMES 5 TIMES 5 TIMES 5 ADD 1 ADD 1 ADD 1 END END END END END"
    };

    public static void main(String[] args) {
        valueBeforeTheFirst();
        valueOfTheLastReturned();
        faultIfItWasRaised();
        faultIfThereIsNone();
        faultOfTheKthCause();
        faultOfTheLastRunThatCounts();
        stepsBeforeTheFirst();
        stepsOfTheLastRunThatCounts();
        eventsSoFar();
        eventOfTheIthLast();
        eventTo31();
        eventIfThereIsNone();
        eventMayBeThatToo();
        eventsGoRound();
        mostBeforeTheFirst();
        mostOfTheLastRunThatCounts();
        mostAtOneTime();
        mostCountsAsOftenAsHeld();
        askingChangesNothing();
        calls512();
        Bench.finish("AnswerEdgesTest");
    }

    /** "0 before the first": runs that were not RETURNED are none. */
    private static void valueBeforeTheFirst() {
        EndingsLab x = Bench.lab(TEXTS);
        Bench.due("value() at first", x.value(), 0);
        ran(x, 4, REFUSED);
        ran(x, 3, WRONG);
        ran(x, 1, RAISED);
        Bench.due("value() after RAISED at first", x.value(), 0);
        ran(x, 2, LATE);
        Bench.due("value() after LATE at first", x.value(), 0);
        ran(x, 0, RETURNED);
        Bench.due("value() after the first", x.value(), 105);
        EndingsLab inside = Bench.lab("CALL 1 RAISE 1 END", "RETURN 7 END");
        ran(inside, 0, RAISED);
        Bench.due("what a CALL came to is no value()", inside.value(), 0);
    }

    /** "What the last run that was RETURNED came to". */
    private static void valueOfTheLastReturned() {
        EndingsLab x = Bench.lab(TEXTS);
        for (int number : new int[] {1, -6, -7, -8, MAX, MIN, 0}) {
            Bench.due("run(0, " + number + ")", x.run(0, number, true), RETURNED);
            Bench.due("value()", x.value(), number + 5);
            ran(x, 1, RAISED);
            Bench.due("value() after RAISED", x.value(), number + 5);
            ran(x, 2, LATE);
            Bench.due("value() after LATE", x.value(), number + 5);
            ran(x, 3, WRONG);
            Bench.due("value() after WRONG", x.value(), number + 5);
            ran(x, -1, REFUSED);
            Bench.due("value() after REFUSED", x.value(), number + 5);
        }
    }

    /** "of the last run that was not WRONG or REFUSED, if it was RAISED". */
    private static void faultIfItWasRaised() {
        EndingsLab x = Bench.lab(TEXTS);
        ran(x, 1, RAISED);
        Bench.due("fault(0) after RAISED", x.fault(0), 3);
        ran(x, 0, RETURNED);
        Bench.due("fault(0) after RETURNED", x.fault(0), REFUSED);
        Bench.due("fault(1) after RETURNED", x.fault(1), REFUSED);
        ran(x, 1, RAISED);
        Bench.due("fault(1) after RAISED", x.fault(1), 6);
        ran(x, 2, LATE);
        Bench.due("fault(0) after LATE", x.fault(0), REFUSED);
        Bench.due("fault(1) after LATE", x.fault(1), REFUSED);
        EndingsLab caught = Bench.lab("TRY 1 RAISE 2 END CATCH 0 END END", "TRY 4 RAISE 2 END LAST RETURN 0 END END");
        Bench.returns(caught, 0, 0, 0);
        Bench.returns(caught, 1, 0, 0);
    }

    /** "REFUSED if there is none": before the first, behind the last cause, and for k below 0. */
    private static void faultIfThereIsNone() {
        EndingsLab x = Bench.lab(TEXTS);
        for (int k : new int[] {0, 1, -1, MIN, MAX}) {
            Bench.due("fault(" + k + ") at first", x.fault(k), REFUSED);
        }
        ran(x, 1, RAISED);
        for (int k : new int[] {2, 3, 31, 32, 300, 301, 302, 65536, MAX - 1, MAX, -1, -2, -3, MIN, MIN + 1}) {
            Bench.due("fault(" + k + ") of two", x.fault(k), REFUSED);
        }
        EndingsLab one = Bench.lab("RAISE 0 END");
        ran(one, 0, RAISED);
        Bench.due("fault(0) of the kind 0", one.fault(0), 0);
        Bench.due("fault(1) of one", one.fault(1), REFUSED);
    }

    /** "Kind of the fault (k = 0), or of its k-th cause": six runs, with five WRAPs and a MONITOR each. */
    private static void faultOfTheKthCause() {
        int[] wraps = {1, 2, 3, 5, 6};
        StringBuilder text = new StringBuilder("ENTER 0 TRY 1 TRY 1 TRY 1 TRY 1 TRY 1 CALL 0 ");
        for (int k : wraps) {
            text.append("END CATCH 0 WRAP ").append(k).append(" END ");
        }
        EndingsLab x = Bench.lab(text.append("END").toString());
        int[] kinds = new int[37];
        for (int i = 0; i < 36; i++) {
            kinds[i] = i % 6 == 0 ? 4 : wraps[5 - i % 6];
        }
        kinds[36] = 5;
        for (int again = 0; again < 10; again++) {
            Bench.raises(x, 0, 0, kinds);
            Bench.due("steps() of a long chain", x.steps(), 72);
        }
        for (int length = 1; length <= 6; length++) {
            int[] kindsOfChain = new int[length];
            Arrays.fill(kindsOfChain, 2);
            kindsOfChain[length - 1] = 1;
            Bench.raises(Bench.lab(chain(length - 1)), 0, 0, kindsOfChain);
        }
    }

    private static String chain(int causes) {
        return "TRY 1 ".repeat(causes) + "RAISE 1 " + "END CATCH 0 WRAP 2 END ".repeat(causes) + "END";
    }

    /** "of the last run that was not WRONG or REFUSED": those keep the fault as it was, and so do new texts. */
    private static void faultOfTheLastRunThatCounts() {
        EndingsLab x = Bench.lab(TEXTS);
        ran(x, 1, RAISED);
        ran(x, 3, WRONG);
        ran(x, 4, REFUSED);
        ran(x, -1, REFUSED);
        x.check(0);
        x.check(3);
        x.wipe(1);
        x.token(1, 7, 2);
        Bench.due("fault(0) after WRONG and REFUSED", x.fault(0), 3);
        Bench.due("fault(1) after WRONG and REFUSED", x.fault(1), 6);
        Bench.due("fault(2) after WRONG and REFUSED", x.fault(2), REFUSED);
        x.token(1, 18, 0);
        ran(x, 1, RAISED);
        Bench.due("fault(0) of the next run", x.fault(0), 2);
        Bench.due("fault(1) of the next run", x.fault(1), REFUSED);
    }

    /** "0 before the first": runs that were WRONG or REFUSED are none. */
    private static void stepsBeforeTheFirst() {
        EndingsLab x = Bench.lab(TEXTS);
        Bench.due("steps() at first", x.steps(), 0);
        ran(x, 3, WRONG);
        ran(x, 4, REFUSED);
        Bench.due("steps() after WRONG and REFUSED at first", x.steps(), 0);
        ran(x, 1, RAISED);
        Bench.due("steps() after the first", x.steps(), 6);
    }

    /** "STEPS of the last run that was not WRONG or REFUSED": of that one alone, and 300 if it was LATE. */
    private static void stepsOfTheLastRunThatCounts() {
        EndingsLab x = Bench.lab(TEXTS);
        int[] due = {3, 6, 300};
        for (int i = 0; i < 9; i++) {
            int p = i % 3;
            ran(x, p, p);
            Bench.due("steps() of run(" + p + ")", x.steps(), due[p]);
            ran(x, 3, WRONG);
            ran(x, 9, REFUSED);
            Bench.due("steps() after WRONG and REFUSED", x.steps(), due[p]);
        }
        EndingsLab none = Bench.lab("END", "NOTE 1 END");
        ran(none, 1, RETURNED);
        ran(none, 0, RETURNED);
        Bench.due("steps() of a text without items", none.steps(), 0);
    }

    /** "EVENTS noted so far": of all runs, however they went; a wiped text takes none back. */
    private static void eventsSoFar() {
        EndingsLab x = Bench.lab(TEXTS);
        Bench.due("events() at first", x.events(), 0);
        for (int i = 0; i < 9; i++) {
            ran(x, i % 3, i % 3);
            Bench.due("events() after " + (i + 1) + " runs", x.events(), i + 1);
            ran(x, 3, WRONG);
            ran(x, 4, REFUSED);
            Bench.due("events() after WRONG and REFUSED", x.events(), i + 1);
        }
        for (int p = 0; p < 4; p++) {
            x.wipe(p);
        }
        Bench.due("events() after wipe", x.events(), 9);
        Bench.due("event(0) after wipe", x.event(0), 3);
        Bench.due("event(8) after wipe", x.event(8), 1);
    }

    /** "The i-th last EVENT (0 the last, ...)". */
    private static void eventOfTheIthLast() {
        EndingsLab x = Bench.lab("NOTE 10 NOTE 11 NOTE 12 END");
        x.run(0, 0, false);
        Bench.noted(x, 12, 11, 10);
        x.run(0, 0, true);
        Bench.noted(x, 12, 11, 10, 12, 11, 10);
        for (int a : new int[] {0, 1, -1, MIN, MAX, 65536, -32769}) {
            EndingsLab one = Bench.lab("NOTE " + a + " END");
            one.run(0, 0, false);
            Bench.noted(one, a);
        }
    }

    /** "(..., to 31)": the 33rd last one is gone. */
    private static void eventTo31() {
        for (int n : new int[] {30, 31, 32, 33, 34, 63, 64, 65, 96, 100}) {
            EndingsLab x = counted(n);
            Bench.due("events() of " + n, x.events(), n);
            for (int i = 0; i < 31; i++) {
                Bench.due("event(" + i + ") of " + n, x.event(i), i < n ? n - i : REFUSED);
            }
            Bench.due("event(31) of " + n, x.event(31), n >= 32 ? n - 31 : REFUSED);
            Bench.due("event(32) of " + n, x.event(32), REFUSED);
            Bench.due("event(33) of " + n, x.event(33), REFUSED);
            Bench.due("event(63) of " + n, x.event(63), REFUSED);
            Bench.due("event(64) of " + n, x.event(64), REFUSED);
        }
    }

    /** An object whose events are 1 to n. */
    private static EndingsLab counted(int n) {
        EndingsLab x = new EndingsLab();
        for (int first = 1; first <= n; first += 31) {
            x.wipe(0);
            for (int a = first; a <= n && a < first + 31; a++) {
                x.token(0, 0, a);
            }
            x.token(0, 18, 0);
            ran(x, 0, RETURNED);
        }
        return x;
    }

    /** "REFUSED if there is none": with fewer events, and for i below 0 or far above. */
    private static void eventIfThereIsNone() {
        for (int n = 0; n <= 33; n++) {
            EndingsLab x = counted(n);
            Bench.due("event(" + n + ") of " + n, x.event(n), REFUSED);
            if (n > 0 && n <= 32) {
                Bench.due("event(" + (n - 1) + ") of " + n, x.event(n - 1), 1);
            }
            for (int i : new int[] {-1, -2, -31, -32, -33, MIN, MIN + 1, MAX, MAX - 1, 32, 64, 65536}) {
                Bench.due("event(" + i + ") of " + n, x.event(i), REFUSED);
            }
        }
    }

    /** "(an EVENT may be that too)". */
    private static void eventMayBeThatToo() {
        EndingsLab x = Bench.lab("NOTE -1 END", "NOTE -2 NOTE -3 END");
        ran(x, 0, RETURNED);
        Bench.due("events() of one", x.events(), 1);
        Bench.due("event(0) that is REFUSED", x.event(0), -1);
        ran(x, 1, RETURNED);
        Bench.noted(x, -3, -2, -1);
    }

    /** "EVENTS noted so far", "The i-th last EVENT": many in one run, up to its last step. */
    private static void eventsGoRound() {
        EndingsLab x = Bench.lab("TIMES 5 TIMES 5 TIMES 5 NOTE 1 NOTE 2 END END END " + "NOTE 3 ".repeat(18) + "NOTE 4 END");
        Bench.returns(x, 0, 0, 0);
        Bench.due("steps() of many notes", x.steps(), 300);
        Bench.due("events() of many notes", x.events(), 269);
        Bench.due("event(0) of many notes", x.event(0), 4);
        Bench.due("event(1) of many notes", x.event(1), 3);
        Bench.due("event(18) of many notes", x.event(18), 3);
        Bench.due("event(19) of many notes", x.event(19), 2);
        Bench.due("event(20) of many notes", x.event(20), 1);
        Bench.due("event(31) of many notes", x.event(31), 2);
    }

    /** "0 before the first": runs that were WRONG or REFUSED are none. */
    private static void mostBeforeTheFirst() {
        EndingsLab x = Bench.lab(TEXTS);
        Bench.due("most() at first", x.most(), 0);
        ran(x, 3, WRONG);
        ran(x, 4, REFUSED);
        Bench.due("most() after WRONG and REFUSED at first", x.most(), 0);
        ran(x, 1, RAISED);
        Bench.due("most() after the first", x.most(), 2);
    }

    /** "in the last run that was not WRONG or REFUSED": of that one alone, however it went. */
    private static void mostOfTheLastRunThatCounts() {
        EndingsLab x = Bench.lab(TEXTS);
        int[] due = {1, 2, 3};
        for (int p : new int[] {2, 1, 0, 2, 0, 1, 2, 2, 1, 1, 0, 0}) {
            ran(x, p, p);
            Bench.due("most() of run(" + p + ")", x.most(), due[p]);
            ran(x, 3, WRONG);
            ran(x, 4, REFUSED);
            Bench.due("most() after WRONG and REFUSED", x.most(), due[p]);
        }
        EndingsLab none = Bench.lab("LOCK 0 END END", "END", "HELD 0 TRY 1 LEAVE 0 END CATCH 4 END END");
        ran(none, 0, RETURNED);
        ran(none, 1, RETURNED);
        Bench.due("most() of a run without locks", none.most(), 0);
        ran(none, 2, RETURNED);
        Bench.due("most() of HELD and a wrong LEAVE", none.most(), 0);
    }

    /** "The greatest number of locks that were HELD at one time": not all that ever were, not those at the end. */
    private static void mostAtOneTime() {
        EndingsLab x = Bench.lab("LOCK 0 END LOCK 1 LOCK 2 END END LOCK 0 END END",
            "ENTER 0 LEAVE 0 ENTER 1 LEAVE 1 ENTER 2 LEAVE 2 END",
            "ENTER 0 ENTER 1 LEAVE 0 LOCK 2 END LEAVE 1 ENTER 0 LEAVE 0 END",
            "TIMES 5 LOCK 0 ENTER 1 NOTE 1 LEAVE 1 END END END");
        int[] due = {2, 1, 2, 2};
        for (int p = 0; p < 4; p++) {
            ran(x, p, RETURNED);
            Bench.due("most() of run(" + p + ")", x.most(), due[p]);
        }
        EndingsLab freed = Bench.lab("TIMES 3 TRY 1 CALL 1 END CATCH 4 END END LOCK 2 END END", "ENTER 0 ENTER 1 END");
        ran(freed, 0, RETURNED);
        Bench.due("most() of what each call enters", freed.most(), 2);
    }

    /** "each counted as often as it was HELD": by LOCK and ENTER, in all calls, up to the last step of a run. */
    private static void mostCountsAsOftenAsHeld() {
        EndingsLab x = Bench.lab("LOCK 0 LOCK 0 ENTER 0 ENTER 1 LEAVE 0 LEAVE 1 END END END", "ENTER 2 LOCK 2 CALL 2 END LEAVE 2 END",
            "LOCK 2 ENTER 2 LEAVE 2 END END", "TIMES 5 TIMES 5 TIMES 5 ENTER 0 ENTER 1 END END END " + "ENTER 2 ".repeat(19) + "END");
        ran(x, 0, RETURNED);
        Bench.due("most() of LOCK and ENTER", x.most(), 4);
        ran(x, 1, RETURNED);
        Bench.due("most() through a call", x.most(), 4);
        ran(x, 3, RAISED);
        Bench.due("most() of 269 ENTERs", x.most(), 269);
        Bench.due("steps() of 269 ENTERs", x.steps(), 300);
        Bench.write(x, 3, "END");
        ran(x, 3, WRONG);
        Bench.rewrite(x, 3, "TIMES 5 TIMES 5 TIMES 5 ENTER 0 ENTER 1 END END END " + "ENTER 2 ".repeat(20) + "END");
        ran(x, 3, LATE);
        Bench.due("most() of a LATE run", x.most(), 269);
    }

    /** "Nothing is promised beyond the answers and state changes described": the questions change no answer. */
    private static void askingChangesNothing() {
        EndingsLab x = Bench.lab(TEXTS);
        ran(x, 0, RETURNED);
        ran(x, 1, RAISED);
        for (int i = 0; i < 5; i++) {
            Bench.due("value() asked again", x.value(), 105);
            Bench.due("fault(0) asked again", x.fault(0), 3);
            Bench.due("fault(1) asked again", x.fault(1), 6);
            Bench.due("steps() asked again", x.steps(), 6);
            Bench.due("events() asked again", x.events(), 2);
            Bench.due("event(0) asked again", x.event(0), 2);
            Bench.due("event(1) asked again", x.event(1), 1);
            Bench.due("event(2) asked again", x.event(2), REFUSED);
            Bench.due("most() asked again", x.most(), 2);
            Bench.due("place() asked again", x.place(), REFUSED);
        }
    }

    /** "An object is used for at most 512 calls after it has been made": the last of them is answered like the first. */
    private static void calls512() {
        EndingsLab noting = Bench.lab("TIMES 5 TIMES 5 TIMES 5 NOTE 1 NOTE 2 NOTE 3 END END END END");
        // 300 steps are 1, three times 81 with 75 notes, 1, three times 16 with 15, and 7 with 6.
        int notesOfARun = 3 * 75 + 3 * 15 + 6;
        for (int calls = 12; calls + 2 <= CALLS; calls += 2) {
            Bench.due("run in call " + calls, noting.run(0, 0, false), LATE);
            Bench.due("events() in call " + calls, noting.events(), (calls - 10) / 2 * notesOfARun);
        }
        EndingsLab writing = new EndingsLab();
        for (int calls = 0; calls + 4 <= CALLS; calls += 4) {
            int p = calls / 4 % 4;
            Bench.due("token in call " + calls, writing.token(p, 18, 0), 1);
            Bench.due("check in call " + calls, writing.check(p), 0);
            Bench.due("run in call " + calls, writing.run(p, calls, true), RETURNED);
            Bench.due("wipe in call " + calls, writing.wipe(p), 1);
        }
        EndingsLab raising = Bench.lab("TIMES 5 TIMES 5 TIMES 5 TRY 1 RAISE 1 END CATCH 0 END END END END RAISE 2 END");
        for (int calls = 13; calls + 2 <= CALLS; calls += 2) {
            Bench.due("run in call " + calls, raising.run(0, 0, false), RAISED);
            Bench.due("fault(0) in call " + calls, raising.fault(0), 2);
        }
    }

    private static void ran(EndingsLab x, int procedure, int want) {
        Bench.due("run(" + procedure + ", 100, false)", x.run(procedure, 100, false), want);
    }
}
