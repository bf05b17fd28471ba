/** The edges of promises 6 and 13 and of the terms of a run: above each test stands the sentence that it holds to. */
public final class RunEdgesTest {
    private static final int REFUSED = EndingsLab.REFUSED;
    private static final int WRONG = EndingsLab.WRONG;
    private static final int MIN = Integer.MIN_VALUE;
    private static final int MAX = Integer.MAX_VALUE;
    private static final int SOFT = 1;
    private static final int HARD = 2;
    private static final int COLD = 3;
    private static final int MONITOR = 4;
    private static final int DEEP = 5;
    private static final int ZERO = 6;

    /** The ways a block of a TRY can end, inside of a TIMES. */
    private static final String[] ENDINGS = {"", "BREAK", "NEXT", "RETURN 20", "RAISE 1"};
    private static final String[] LAST_ENDINGS = {"", "BREAK", "NEXT", "RETURN 30", "RAISE 2"};

    public static void main(String[] args) {
        wrongIfAnyIsNotGood();
        theLeastOneCounts();
        threadMakesNoDifference();
        accountIsTheNumber();
        intsWrap();
        dividedTowardZero();
        dividedByZero();
        timesZeroToFive();
        breakEndsTheInnermost();
        nextGoesOn();
        returnSays();
        raiseIsWithoutCause();
        wrapHasItsCause();
        aboveNotEqual();
        heldIsOneOrZero();
        allAreFaults();
        firstCatchInOrder();
        notCaughtByThisTry();
        lastHoweverItEnds();
        lastBehindCatch();
        noLastWithout4();
        beforeIsForgotten();
        lockHoweverItEnds();
        leaveOnceLess();
        leaveNotEntered();
        callsHaveTheirOwn();
        emptyComesToTheNumber();
        insideOf5Calls();
        deepAlsoIfEmpty();
        runEndsWithEntered();
        causeIfThereIsOne();
        eachItemIsAStep();
        step300IsBegun();
        step301IsNotBegun();
        endsAreNoSteps();
        noLastWhenLate();
        noMonitorWhenLate();
        lateInACall();
        noLockBeforeAndBehind();
        longWays();
        Bench.finish("RunEdgesTest");
    }

    /** "WRONG if the text of any of the procedures that are not empty, or that of this one, is not GOOD". */
    private static void wrongIfAnyIsNotGood() {
        for (int asked = 0; asked < 4; asked++) {
            EndingsLab alone = new EndingsLab();
            Bench.due("run of an empty text", alone.run(asked, 0, false), WRONG);
            Bench.due("place() of it", alone.place(), 32 * asked);
            Bench.write(alone, asked, "END");
            Bench.due("run of END alone", alone.run(asked, 0, false), EndingsLab.RETURNED);
            for (int other = 0; other < 4; other++) {
                if (other != asked) {
                    wrongBeside(asked, other, "NOTE 1", 1);
                    wrongBeside(asked, other, "BREAK", 0);
                    wrongBeside(asked, other, "END END", 1);
                }
            }
        }
    }

    private static void wrongBeside(int asked, int other, String text, int place) {
        EndingsLab x = new EndingsLab();
        Bench.write(x, asked, "NOTE 7 END");
        Bench.write(x, other, text);
        Bench.due("run(" + asked + ") beside " + text, x.run(asked, 0, false), WRONG);
        Bench.due("place() of it", x.place(), 32 * other + place);
        Bench.due("nothing was run", x.events(), 0);
        x.wipe(other);
        Bench.due("run(" + asked + ") beside an empty text", x.run(asked, 0, false), EndingsLab.RETURNED);
    }

    /** "(the least one counts)". */
    private static void theLeastOneCounts() {
        for (int asked = 0; asked < 4; asked++) {
            for (int others = 0; others < 16; others++) {
                EndingsLab x = new EndingsLab();
                int least = asked;
                for (int p = 3; p >= 0; p--) {
                    if ((others & 1 << p) != 0) {
                        x.token(p, 4, 0);
                        least = Math.min(least, p);
                    }
                }
                Bench.due("run(" + asked + ") with wrong ones", x.run(asked, 0, false), WRONG);
                Bench.due("place() of the least one", x.place(), 32 * least);
            }
        }
    }

    /** "on a thread of its own or not (that makes no difference)". */
    private static void threadMakesNoDifference() {
        String[] texts = {"LOCK 1 NOTE 3 RETURN 2 END END", "ENTER 0 RAISE 3 END", Bench.spending(300) + "NOTE 1 END", "ENTER 2 HELD 2 LEAVE 2 END"};
        EndingsLab on = Bench.lab(texts);
        EndingsLab off = Bench.lab(texts);
        for (int p = 0; p < 4; p++) {
            Bench.due("run(" + p + ") on its own thread", on.run(p, 5, true), off.run(p, 5, false));
            Bench.due("value()", on.value(), off.value());
            Bench.due("steps()", on.steps(), off.steps());
            Bench.due("events()", on.events(), off.events());
            Bench.due("most()", on.most(), off.most());
            for (int k = 0; k < 3; k++) {
                Bench.due("fault(" + k + ")", on.fault(k), off.fault(k));
            }
        }
        Bench.due("the last run came to 1", on.value(), 1);
    }

    /** "its ACCOUNT is the number; ... it comes to its ACCOUNT at the end". */
    private static void accountIsTheNumber() {
        EndingsLab x = Bench.lab("END", "NOTE 1 END", "RETURN 0 END");
        for (int number : new int[] {0, 1, -1, -2, -3, MIN, MIN + 1, MAX, MAX - 1, 65536, -32769}) {
            for (int p = 0; p < 3; p++) {
                Bench.returns(x, p, number, number);
            }
        }
    }

    /** "the ACCOUNT grows by a (ints wrap)"; "the procedure comes to ACCOUNT + a". */
    private static void intsWrap() {
        EndingsLab x = Bench.lab("ADD 1 END", "ADD -1 END", "ADD -2147483648 END", "RETURN 2147483647 END");
        Bench.returns(x, 0, MAX, MIN);
        Bench.returns(x, 0, MAX - 1, MAX);
        Bench.returns(x, 1, MIN, MAX);
        Bench.returns(x, 1, MIN + 1, MIN);
        Bench.returns(x, 2, MIN, 0);
        Bench.returns(x, 2, -1, MAX);
        Bench.returns(x, 2, 0, MIN);
        Bench.returns(x, 3, 1, MIN);
        Bench.returns(x, 3, 0, MAX);
        Bench.returns(x, 3, MAX, -2);
        Bench.returns(x, 3, MIN, -1);
    }

    /** "it is divided by a, toward zero". */
    private static void dividedTowardZero() {
        int[][] due = {
            {7, 2, 3}, {-7, 2, -3}, {7, -2, -3}, {-7, -2, 3}, {1, 2, 0}, {-1, 2, 0}, {0, 5, 0}, {6, 3, 2}, {-6, 3, -2},
            {5, 1, 5}, {5, -1, -5}, {MIN, 1, MIN}, {MIN, -1, MIN}, {MAX, -1, -MAX}, {MIN, 2, -1073741824},
            {MIN, MIN, 1}, {MAX, MIN, 0}, {MIN, MAX, -1}, {MAX, MAX, 1}, {MIN + 1, MIN, 0}
        };
        for (int[] one : due) {
            EndingsLab x = Bench.lab("DIVIDE " + one[1] + " END");
            Bench.returns(x, 0, one[0], one[2]);
        }
    }

    /** "by 0: the fault ZERO", also of 0; the ACCOUNT stays as it was. */
    private static void dividedByZero() {
        EndingsLab x = Bench.lab("DIVIDE 0 END", "TRY 1 DIVIDE 0 END CATCH 6 END END", "TRY 1 DIVIDE 0 END CATCH 2 WRAP 1 END END",
            "TRY 1 DIVIDE 0 END CATCH 1 END END");
        for (int number : new int[] {0, 1, -1, MIN, MAX}) {
            Bench.raises(x, 0, number, ZERO);
            Bench.returns(x, 1, number, number);
            Bench.raises(x, 2, number, SOFT, ZERO);
            Bench.raises(x, 3, number, ZERO);
        }
    }

    /** "TIMES a (0 .. 5)"; "the block is done a times". */
    private static void timesZeroToFive() {
        for (int a = 0; a <= 5; a++) {
            EndingsLab x = Bench.lab("TIMES " + a + " NOTE 1 ADD 1 END END", "TIMES " + a + " END END",
                "TIMES " + a + " TIMES " + a + " ADD 1 END END END");
            Bench.returns(x, 0, 100, 100 + a);
            Bench.due("events() of TIMES " + a, x.events(), a);
            Bench.due("steps() of TIMES " + a, x.steps(), 1 + 2 * a);
            Bench.returns(x, 1, 100, 100);
            Bench.due("steps() of an empty TIMES " + a, x.steps(), 1);
            Bench.returns(x, 2, 0, a * a);
        }
    }

    /** "BREAK ends that ... (the innermost TIMES around)": in the first time, in the last, through other blocks. */
    private static void breakEndsTheInnermost() {
        EndingsLab x = Bench.lab("TIMES 5 BREAK ADD 1 END ADD 10 END",
            "TIMES 5 ADD 1 ABOVE 4 BREAK END END ADD 10 END",
            "TIMES 2 TIMES 5 ADD 1 BREAK ADD 50 END ADD 100 END END",
            "TIMES 5 ADD 1 ABOVE 0 LOCK 0 TRY 0 BREAK END ADD 50 END ADD 50 END ADD 50 END END");
        Bench.returns(x, 0, 0, 10);
        Bench.returns(x, 1, 0, 15);
        Bench.returns(x, 2, 0, 202);
        Bench.returns(x, 3, 0, 1);
        EndingsLab behind = Bench.lab("TIMES 2 TIMES 0 END ADD 1 BREAK END END");
        Bench.returns(behind, 0, 0, 1);
    }

    /** "NEXT goes on with the next time (the innermost TIMES around)": behind the last time there is none. */
    private static void nextGoesOn() {
        EndingsLab x = Bench.lab("TIMES 5 ADD 1 NEXT ADD 50 END ADD 10 END",
            "TIMES 1 NEXT ADD 50 END ADD 10 END",
            "TIMES 2 TIMES 5 ADD 1 NEXT ADD 50 END ADD 100 END END",
            "TIMES 5 ADD 1 ABOVE 0 LOCK 0 TRY 0 NEXT END ADD 50 END ADD 50 END ADD 50 END END");
        Bench.returns(x, 0, 0, 15);
        Bench.returns(x, 1, 0, 10);
        Bench.returns(x, 2, 0, 210);
        Bench.returns(x, 3, 0, 5);
    }

    /** "it comes to its ACCOUNT at the end, or to what RETURN says": from any depth, and nothing behind it is done. */
    private static void returnSays() {
        EndingsLab x = Bench.lab("TIMES 5 TIMES 5 LOCK 0 ABOVE -5 TRY 0 RETURN 3 END END END END END NOTE 1 END",
            "TRY 1 RAISE 1 END CATCH 0 RETURN -3 END NOTE 1 END", "TRY 5 RETURN 4 END CATCH 0 NOTE 1 END LAST ADD 90 END NOTE 1 END",
            "RETURN -1 END");
        Bench.returns(x, 0, 1, 4);
        Bench.returns(x, 1, 1, -2);
        Bench.returns(x, 2, 1, 5);
        Bench.returns(x, 3, 0, -1);
        Bench.due("events() behind RETURN", x.events(), 0);
    }

    /** "the fault k, without a cause": also inside of a CATCH. */
    private static void raiseIsWithoutCause() {
        for (int k = 0; k <= 6; k++) {
            EndingsLab x = Bench.lab("RAISE " + k + " END", "TRY 1 RAISE 1 END CATCH 0 RAISE " + k + " END END",
                "TRY 4 RAISE 1 END LAST RAISE " + k + " END END", "TRY 1 RAISE 1 END CATCH 0 CALL 0 END END");
            for (int p = 0; p < 4; p++) {
                Bench.raises(x, p, 0, k);
            }
        }
    }

    /** "the fault k, with the fault as its cause that the innermost CATCH around has caught". */
    private static void wrapHasItsCause() {
        for (int k = 0; k <= 6; k++) {
            for (int cause = 0; cause <= 6; cause++) {
                EndingsLab x = Bench.lab("TRY 1 RAISE " + cause + " END CATCH 0 WRAP " + k + " END END");
                Bench.raises(x, 0, 0, k, cause);
            }
        }
        EndingsLab x = Bench.lab("TRY 1 RAISE 1 END CATCH 0 TRY 1 RAISE 2 END CATCH 0 WRAP 3 END END END",
            "TRY 1 RAISE 1 END CATCH 0 TRY 1 RAISE 2 END CATCH 0 END WRAP 3 END END",
            "TRY 1 RAISE 1 END CATCH 0 TRY 5 RAISE 2 END CATCH 0 END LAST WRAP 3 END END END",
            "TRY 2 TRY 1 RAISE 1 END CATCH 1 WRAP 6 END END CATCH 1 END CATCH 2 WRAP 3 END END");
        for (int number : new int[] {0, 1, 2, -1, MIN, MAX}) {
            Bench.raises(x, 0, number, COLD, HARD);
            Bench.raises(x, 1, number, COLD, SOFT);
            Bench.raises(x, 2, number, COLD, SOFT);
            Bench.raises(x, 3, number, COLD, ZERO, SOFT);
        }
    }

    /** "its block is done if the ACCOUNT is above a": not if it is the same. */
    private static void aboveNotEqual() {
        for (int a : new int[] {0, 5, -5, MIN, MIN + 1, MAX - 1, MAX}) {
            EndingsLab x = Bench.lab("ABOVE " + a + " NOTE 1 END END");
            int events = 0;
            for (int number : new int[] {a, a - 1, a + 1, 0, MIN, MAX}) {
                Bench.returns(x, 0, number, number);
                events += number > a ? 1 : 0;
                Bench.due("events() of ABOVE " + a + " with " + number, x.events(), events);
                Bench.due("steps() of ABOVE " + a + " with " + number, x.steps(), number > a ? 2 : 1);
            }
        }
    }

    /** "the ACCOUNT becomes 1 if the lock l is HELD, else 0": however often, by whomever, and each lock for itself. */
    private static void heldIsOneOrZero() {
        for (int held = 0; held <= 2; held++) {
            for (int asked = 0; asked <= 2; asked++) {
                int want = held == asked ? 1 : 0;
                EndingsLab x = Bench.lab("LOCK " + held + " LOCK " + held + " HELD " + asked + " END END END",
                    "LOCK " + held + " CALL 2 END END", "HELD " + asked + " END",
                    "ENTER " + held + " ENTER " + held + " LEAVE " + held + " CALL 2 LEAVE " + held + " END");
                Bench.returns(x, 0, 9, want);
                Bench.returns(x, 1, 9, want);
                Bench.returns(x, 2, 9, 0);
                Bench.returns(x, 3, 9, want);
            }
        }
    }

    /** "COLD is a SOFT, ZERO is a HARD, all are FAULTS." */
    private static void allAreFaults() {
        String[] caughtBy = {"0", "01", "02", "013", "04", "05", "026"};
        for (int raised = 0; raised <= 6; raised++) {
            for (int wanted = 0; wanted <= 6; wanted++) {
                EndingsLab x = Bench.lab("TRY 1 RAISE " + raised + " END CATCH " + wanted + " END END");
                boolean isOne = caughtBy[raised].indexOf('0' + wanted) >= 0;
                Bench.due("CATCH " + wanted + " of " + raised, x.run(0, 0, false), isOne ? 0 : 1);
                Bench.due("fault(0) of it", x.fault(0), isOne ? REFUSED : raised);
            }
        }
    }

    /** "the first CATCH, in order, whose kind it is: its block is done instead"; "there is none: the fault goes on". */
    private static void firstCatchInOrder() {
        EndingsLab x = Bench.lab("TRY 2 RAISE 3 NOTE 9 END CATCH 3 NOTE 1 END CATCH 3 NOTE 2 END NOTE 3 END",
            "TRY 2 RAISE 3 END CATCH 0 NOTE 1 END CATCH 3 NOTE 2 END NOTE 3 END",
            "TRY 2 RAISE 3 END CATCH 2 NOTE 1 END CATCH 1 NOTE 2 END NOTE 3 END",
            "TRY 2 RAISE 3 END CATCH 2 NOTE 1 END CATCH 4 NOTE 2 END NOTE 3 END");
        Bench.returns(x, 0, 0, 0);
        Bench.noted(x, 3, 1);
        Bench.returns(x, 1, 0, 0);
        Bench.noted(x, 3, 1, 3, 1);
        Bench.returns(x, 2, 0, 0);
        Bench.noted(x, 3, 2, 3, 1, 3, 1);
        Bench.raises(x, 3, 0, COLD);
        Bench.due("events() of none", x.events(), 6);
        EndingsLab none = Bench.lab("TRY 0 RAISE 1 END NOTE 1 END", "TRY 2 NOTE 5 END CATCH 0 NOTE 6 END CATCH 0 NOTE 7 END END",
            "TRY 1 TRY 1 RAISE 1 END CATCH 2 NOTE 1 END NOTE 2 END CATCH 1 NOTE 8 END END");
        Bench.raises(none, 0, 0, SOFT);
        Bench.returns(none, 1, 0, 0);
        Bench.returns(none, 2, 0, 0);
        Bench.noted(none, 8, 5);
    }

    /** "(a fault from there is not caught by this TRY)". */
    private static void notCaughtByThisTry() {
        EndingsLab x = Bench.lab("TRY 2 RAISE 1 END CATCH 1 RAISE 2 END CATCH 2 NOTE 1 END END",
            "TRY 2 RAISE 1 END CATCH 0 RAISE 2 END CATCH 0 NOTE 1 END END",
            "TRY 2 RAISE 2 END CATCH 1 NOTE 1 END CATCH 0 WRAP 1 END END",
            "TRY 1 TRY 2 RAISE 1 END CATCH 0 WRAP 2 END CATCH 2 NOTE 1 END END CATCH 2 NOTE 5 END END");
        Bench.raises(x, 0, 0, HARD);
        Bench.raises(x, 1, 0, HARD);
        Bench.raises(x, 2, 0, SOFT, HARD);
        Bench.returns(x, 3, 0, 0);
        Bench.noted(x, 5);
        EndingsLab last = Bench.lab("TRY 6 END CATCH 0 NOTE 1 END CATCH 0 NOTE 1 END LAST RAISE 3 END END");
        Bench.raises(last, 0, 0, COLD);
        Bench.due("a fault of LAST is not caught either", last.events(), 0);
    }

    /** "At the end, however it ends, the block of LAST is done; if that ends by BREAK, NEXT, RETURN or a fault, that counts". */
    private static void lastHoweverItEnds() {
        for (int before = 0; before < 5; before++) {
            for (int last = 0; last < 5; last++) {
                EndingsLab x = Bench.lab("TIMES 2 NOTE 1 TRY 4 " + ENDINGS[before] + " END LAST NOTE 2 "
                    + LAST_ENDINGS[last] + " END NOTE 3 END NOTE 4 RETURN 10 END");
                endsAs(x, last == 0 ? before : last, last == 0 ? 20 : 30, last == 0 ? SOFT : HARD);
            }
        }
    }

    /** The same, "its block is done instead": what counts before LAST is how the block of the CATCH ended. */
    private static void lastBehindCatch() {
        for (int before = 0; before < 5; before++) {
            for (int last = 0; last < 5; last++) {
                EndingsLab x = Bench.lab("TIMES 2 NOTE 1 TRY 6 RAISE 6 END CATCH 1 END CATCH 2 " + ENDINGS[before]
                    + " END LAST NOTE 2 " + LAST_ENDINGS[last] + " END NOTE 3 END NOTE 4 RETURN 10 END");
                endsAs(x, last == 0 ? before : last, last == 0 ? 20 : 30, last == 0 ? SOFT : HARD);
            }
        }
    }

    /** TIMES 2 with NOTE 1, a TRY whose LAST has NOTE 2, NOTE 3; then NOTE 4 and RETURN 10. */
    private static void endsAs(EndingsLab x, int ending, int value, int kind) {
        switch (ending) {
            case 0 -> {
                Bench.returns(x, 0, 0, 10);
                Bench.noted(x, 4, 3, 2, 1, 3, 2, 1);
            }
            case 1 -> {
                Bench.returns(x, 0, 0, 10);
                Bench.noted(x, 4, 2, 1);
            }
            case 2 -> {
                Bench.returns(x, 0, 0, 10);
                Bench.noted(x, 4, 2, 1, 2, 1);
            }
            case 3 -> {
                Bench.returns(x, 0, 0, value);
                Bench.noted(x, 2, 1);
            }
            default -> {
                Bench.raises(x, 0, 0, kind);
                Bench.noted(x, 2, 1);
            }
        }
    }

    /** "then, with 4, LAST and a block": without 4 the item behind the TRY is an item like others. */
    private static void noLastWithout4() {
        String[] tries = {"TRY 0 END", "TRY 1 RAISE 1 END CATCH 0 END", "TRY 2 RAISE 1 END CATCH 2 END CATCH 0 END"};
        for (String without : tries) {
            EndingsLab x = Bench.lab(without + " TIMES 3 ADD 1 END END", without + " LOCK 0 ADD 1 END END",
                without + " ABOVE 5 ADD 1 END END", without + " TRY 0 ADD 1 END END");
            Bench.returns(x, 0, 0, 3);
            Bench.returns(x, 1, 0, 1);
            Bench.due("most() of the LOCK behind " + without, x.most(), 1);
            Bench.returns(x, 2, 0, 0);
            Bench.returns(x, 3, 0, 1);
        }
        EndingsLab raised = Bench.lab("TRY 0 RAISE 1 END TIMES 1 NOTE 1 END END", "TRY 0 RETURN 1 END TRY 0 NOTE 1 END END");
        Bench.raises(raised, 0, 0, SOFT);
        Bench.returns(raised, 1, 0, 1);
        Bench.due("events() behind a TRY that does not go on", raised.events(), 0);
    }

    /** "that counts, and what was before is forgotten": but what ends inside of LAST and not LAST itself does not count. */
    private static void beforeIsForgotten() {
        String[] inside = {"TRY 1 RAISE 6 END CATCH 0 END", "TIMES 2 TRY 4 RETURN 50 END LAST BREAK END END", "TIMES 1 BREAK END",
            "TIMES 2 TRY 4 RAISE 6 END LAST NEXT END END", "CALL 1", "TRY 1 CALL 2 END CATCH 0 END", "TRY 1 LEAVE 0 END CATCH 4 END"};
        for (String last : inside) {
            for (int number : new int[] {0, 7}) {
                Bench.returns(Bench.lab("TRY 4 RETURN 1 END LAST " + last + " END NOTE 1 END", "RETURN 60 END", "RAISE 2 END"), 0, number, number + 1);
                Bench.raises(Bench.lab("TRY 4 RAISE 3 END LAST " + last + " END NOTE 1 END", "RETURN 60 END", "RAISE 2 END"), 0, number, COLD);
            }
        }
        EndingsLab x = Bench.lab("TRY 1 TRY 4 RAISE 3 END LAST RAISE 2 END END CATCH 0 WRAP 1 END END",
            "TRY 4 RAISE 3 END LAST CALL 2 END END", "LEAVE 0 END");
        Bench.raises(x, 0, 0, SOFT, HARD);
        Bench.raises(x, 1, 0, MONITOR);
    }

    /** "the lock l is HELD once more while its block is done, however it ends". */
    private static void lockHoweverItEnds() {
        for (int l = 0; l <= 2; l++) {
            for (String ending : ENDINGS) {
                EndingsLab x = Bench.lab("TIMES 1 TRY 4 LOCK " + l + " HELD " + l + " ABOVE 0 NOTE 1 END " + ending
                    + " END END LAST HELD " + l + " ABOVE 0 NOTE 2 END NOTE 3 END END END");
                x.run(0, 0, false);
                Bench.noted(x, 3, 1);
                Bench.due("most() of one LOCK", x.most(), 1);
                EndingsLab twice = Bench.lab("LOCK " + l + " TIMES 1 TRY 4 LOCK " + l + " " + ending + " END END LAST HELD " + l
                    + " ABOVE 0 NOTE 2 END END END END END");
                twice.run(0, 0, false);
                Bench.noted(twice, 2);
                Bench.due("most() of two LOCKs", twice.most(), 2);
            }
        }
    }

    /** "LEAVE: once less": a lock that was entered n times is HELD until it is left n times. */
    private static void leaveOnceLess() {
        for (int l = 0; l <= 2; l++) {
            for (int n = 1; n <= 6; n++) {
                String enters = ("ENTER " + l + " ").repeat(n);
                String leaves = ("LEAVE " + l + " ").repeat(n - 1);
                EndingsLab x = Bench.lab(enters + leaves + "HELD " + l + " LEAVE " + l + " END",
                    enters + leaves + "LEAVE " + l + " HELD " + l + " END",
                    enters + leaves + "END", enters + leaves + "LEAVE " + l + " LEAVE " + l + " END");
                Bench.returns(x, 0, 9, 1);
                Bench.due("most() of entering " + n + " times", x.most(), n);
                Bench.returns(x, 1, 9, 0);
                Bench.raises(x, 2, 9, MONITOR);
                Bench.raises(x, 3, 9, MONITOR);
            }
        }
    }

    /** "but if this procedure's run has not entered it more often than left it: the fault MONITOR". */
    private static void leaveNotEntered() {
        EndingsLab x = Bench.lab("LEAVE 0 END", "LOCK 0 LEAVE 0 END END", "ENTER 1 ENTER 2 TRY 1 LEAVE 0 END CATCH 4 NOTE 1 END LEAVE 1 LEAVE 2 END",
            "ENTER 0 LEAVE 0 LEAVE 0 END");
        Bench.raises(x, 0, 0, MONITOR);
        Bench.raises(x, 1, 0, MONITOR);
        Bench.returns(x, 2, 4, 4);
        Bench.noted(x, 1);
        Bench.raises(x, 3, 0, MONITOR);
        EndingsLab y = Bench.lab("ENTER 0 TRY 1 CALL 1 END CATCH 4 NOTE 1 END CALL 2 LEAVE 0 END", "LEAVE 0 END", "HELD 0 END",
            "LOCK 0 TRY 1 LEAVE 0 END CATCH 4 END HELD 0 END END");
        Bench.returns(y, 0, 5, 1);
        Bench.noted(y, 1);
        Bench.returns(y, 3, 5, 1);
        EndingsLab again = Bench.lab("TRY 1 LEAVE 0 END CATCH 4 END ENTER 0 HELD 0 LEAVE 0 END");
        Bench.returns(again, 0, 5, 1);
    }

    /** "a run of procedure p with the ACCOUNT, its own ACCOUNT, ENTERS and LEAVES; what it comes to is the ACCOUNT". */
    private static void callsHaveTheirOwn() {
        EndingsLab x = Bench.lab("ADD 1 CALL 1 ADD 100 END", "ADD 10 RETURN 1000 END", "TRY 1 CALL 3 END CATCH 0 END END", "ADD 10 RAISE 1 END");
        Bench.returns(x, 0, 0, 1111);
        Bench.returns(x, 2, 7, 7);
        EndingsLab y = Bench.lab("ENTER 0 ENTER 0 CALL 1 LEAVE 0 LEAVE 0 END", "ENTER 0 LEAVE 0 ADD 3 END", "CALL 3 LEAVE 1 END", "ENTER 1 END");
        Bench.returns(y, 0, 5, 8);
        Bench.due("most() of ENTERS here and there", y.most(), 3);
        Bench.raises(y, 2, 0, MONITOR);
        Bench.due("steps() of a call that ends with MONITOR", y.steps(), 2);
        EndingsLab again = Bench.lab("TRY 1 CALL 1 END CATCH 4 END CALL 2 END", "ENTER 0 END", "TRY 1 LEAVE 0 END CATCH 4 RETURN 50 END END");
        Bench.returns(again, 0, 5, 55);
        EndingsLab caught = Bench.lab("TRY 1 RAISE 3 END CATCH 0 CALL 1 WRAP 2 END END", "TRY 1 RAISE 6 END CATCH 0 END END");
        Bench.raises(caught, 0, 0, HARD, COLD);
    }

    /** "a CALL of an empty one then comes to the number at once". */
    private static void emptyComesToTheNumber() {
        for (int p = 1; p <= 3; p++) {
            EndingsLab x = Bench.lab("CALL " + p + " NOTE 1 END");
            for (int number : new int[] {0, 7, -7, MIN, MAX}) {
                Bench.returns(x, 0, number, number);
                Bench.due("steps() with a CALL of an empty text", x.steps(), 2);
            }
        }
    }

    /** "Inside of 5 calls: the fault DEEP instead." The fifth call is still done. */
    private static void insideOf5Calls() {
        EndingsLab x = Bench.lab("NOTE 1 ADD 1 ABOVE 5 RETURN 0 END CALL 0 END");
        for (int calls = 0; calls <= 5; calls++) {
            EndingsLab y = Bench.lab("NOTE 1 ADD 1 ABOVE 5 RETURN 0 END CALL 0 END");
            Bench.returns(y, 0, 5 - calls, 6);
            Bench.due("events() of " + calls + " calls", y.events(), calls + 1);
        }
        Bench.raises(x, 0, -1, DEEP);
        Bench.due("events() of five calls and a sixth", x.events(), 6);
        Bench.raises(x, 0, -100, DEEP);
        EndingsLab round = Bench.lab("NOTE 0 CALL 1 END", "NOTE 1 CALL 2 END", "NOTE 2 CALL 3 END", "NOTE 3 CALL 0 END");
        Bench.raises(round, 0, 0, DEEP);
        Bench.noted(round, 1, 0, 3, 2, 1, 0);
        EndingsLab row = Bench.lab("TIMES 5 CALL 1 CALL 1 CALL 1 END END", "ADD 1 END");
        Bench.returns(row, 0, 0, 15);
        EndingsLab caught = Bench.lab("TRY 1 CALL 0 END CATCH 5 NOTE 7 END ADD 1 END");
        Bench.returns(caught, 0, 0, 6);
        Bench.noted(caught, 7);
    }

    /** "A CALL inside of 5 calls is DEEP also if the text that it names is empty." */
    private static void deepAlsoIfEmpty() {
        for (int empty = 1; empty <= 3; empty++) {
            EndingsLab x = Bench.lab("ADD 1 ABOVE 5 CALL " + empty + " NOTE 1 RETURN 0 END CALL 0 END");
            Bench.raises(x, 0, 0, DEEP);
            Bench.due("nothing behind the DEEP call", x.events(), 0);
            Bench.returns(x, 0, 1, 6);
            Bench.due("a fifth call of an empty text is done", x.events(), 1);
        }
    }

    /** "these are HELD so often less, and it ends with the fault MONITOR". */
    private static void runEndsWithEntered() {
        String[] endings = {"", "RETURN 5", "RAISE 1", "LEAVE 2 LEAVE 2"};
        for (String ending : endings) {
            EndingsLab x = Bench.lab("LOCK 0 LOCK 1 TRY 1 CALL 1 END CATCH 4 NOTE 1 END CALL 2 END END END",
                "ENTER 0 ENTER 1 ENTER 0 ENTER 2 " + ending + " END", "HELD 0 ABOVE 0 NOTE 2 END HELD 1 ABOVE 0 NOTE 3 END HELD 2 END",
                "TRY 1 CALL 1 END CATCH 4 END HELD 0 ABOVE 0 NOTE 4 END HELD 1 ABOVE 0 NOTE 5 END HELD 2 END");
            Bench.returns(x, 0, 0, 0);
            Bench.noted(x, 3, 2, 1);
            Bench.due("most() of locks and enters", x.most(), 6);
            Bench.returns(x, 3, 0, 0);
            Bench.due("nothing is HELD behind the call", x.events(), 3);
            Bench.due("most() of enters", x.most(), 4);
        }
    }

    /** "its cause being the fault that it would have ended with, if there is one". */
    private static void causeIfThereIsOne() {
        for (int l = 0; l <= 2; l++) {
            EndingsLab x = Bench.lab("ENTER " + l + " END", "ENTER " + l + " RETURN 5 END", "ENTER " + l + " CALL 1 END",
                "ENTER " + l + " TRY 1 RAISE 3 END CATCH 0 WRAP 2 END END");
            Bench.raises(x, 0, 0, MONITOR);
            Bench.raises(x, 1, 0, MONITOR);
            Bench.raises(x, 2, 0, MONITOR, MONITOR);
            Bench.raises(x, 3, 0, MONITOR, HARD, COLD);
            for (int k = 0; k <= 6; k++) {
                EndingsLab y = Bench.lab("ENTER " + l + " ENTER 0 RAISE " + k + " END", "TRY 1 RAISE " + k + " END CATCH 0 END ENTER " + l + " END");
                Bench.raises(y, 0, 0, MONITOR, k);
                Bench.raises(y, 1, 0, MONITOR);
            }
        }
    }

    /** "Each ITEM that is begun is a STEP": one that is done five times is five, one that is not reached is none. */
    private static void eachItemIsAStep() {
        String[] texts = {"NOTE 1", "ADD 1", "DIVIDE 1", "DIVIDE 0", "TIMES 0 NOTE 1 END", "RETURN 1", "RAISE 1", "TRY 0 END",
            "TRY 6 END CATCH 0 NOTE 1 END CATCH 0 NOTE 1 END LAST END", "LOCK 0 END", "ENTER 0", "LEAVE 0", "CALL 3",
            "ABOVE 99 NOTE 1 END", "HELD 0"};
        for (String item : texts) {
            EndingsLab x = Bench.lab(item + " END");
            x.run(0, 0, false);
            Bench.due("steps() of " + item, x.steps(), 1);
        }
        EndingsLab x = Bench.lab("TIMES 5 BREAK NOTE 1 END END", "TIMES 5 NEXT NOTE 1 END END", "TRY 1 RAISE 1 NOTE 1 END CATCH 0 WRAP 1 NOTE 1 END END", "CALL 0 END");
        x.run(0, 0, false);
        Bench.due("steps() of BREAK", x.steps(), 2);
        x.run(1, 0, false);
        Bench.due("steps() of NEXT", x.steps(), 6);
        x.run(2, 0, false);
        Bench.due("steps() of RAISE and WRAP", x.steps(), 3);
        x.run(3, 0, false);
        Bench.due("steps() of a CALL are those of what it calls too", x.steps(), 3);
    }

    /** Items with what is around them, behind 300 steps less those that the start of each costs. */
    private static final String[][] ITEMS = {
        {"", "NOTE 5", ""}, {"", "ADD 5", ""}, {"", "DIVIDE 0", ""}, {"", "TIMES 0 END", ""}, {"TIMES 1", "BREAK", "END"},
        {"TIMES 1", "NEXT", "END"}, {"", "RETURN 5", ""}, {"", "RAISE 5", ""}, {"TRY 1 RAISE 1 END CATCH 0", "WRAP 5", "END"},
        {"", "TRY 6 END CATCH 0 END CATCH 0 END LAST END", ""}, {"", "LOCK 1 END", ""}, {"", "ENTER 1", ""}, {"", "LEAVE 1", ""},
        {"", "CALL 2", ""}, {"", "ABOVE 0 END", ""}, {"", "HELD 1", ""}
    };

    private static EndingsLab withItemAt(int op, int step) {
        int before = op == 4 || op == 5 ? 1 : op == 8 ? 2 : 0;
        return Bench.lab(ITEMS[op][0] + " CALL 3 " + ITEMS[op][1] + " " + ITEMS[op][2] + " END", "", "",
            Bench.spending(step - 2 - before) + "END");
    }

    /** "The 301st one is not begun": the 300th one is, whatever it is. */
    private static void step300IsBegun() {
        int[] values = {7, 12, REFUSED, 7, 7, 7, 12, REFUSED, REFUSED, 7, 7, REFUSED, REFUSED, 7, 7, 0};
        int[][] kinds = {{}, {}, {ZERO}, {}, {}, {}, {}, {DEEP}, {DEEP, SOFT}, {}, {}, {MONITOR}, {MONITOR}, {}, {}, {}};
        for (int op = 0; op <= 15; op++) {
            EndingsLab x = withItemAt(op, 300);
            if (kinds[op].length == 0) {
                Bench.returns(x, 0, 7, values[op]);
            } else {
                Bench.raises(x, 0, 7, kinds[op]);
            }
            Bench.due("steps() with op " + op + " as the 300th", x.steps(), 300);
            Bench.due("events() with op " + op + " as the 300th", x.events(), op == 0 ? 1 : 0);
            Bench.due("most() with op " + op + " as the 300th", x.most(), op == 10 || op == 11 ? 1 : 0);
        }
    }

    /** "The 301st one is not begun: the whole run is LATE": whatever it is, and it leaves no trace. */
    private static void step301IsNotBegun() {
        for (int op = 0; op <= 15; op++) {
            EndingsLab x = withItemAt(op, 301);
            Bench.late(x, 0, 7);
            Bench.due("value() with op " + op + " as the 301st", x.value(), 0);
            Bench.due("events() with op " + op + " as the 301st", x.events(), 0);
            Bench.due("most() with op " + op + " as the 301st", x.most(), 0);
        }
        EndingsLab deep = Bench.lab("CALL 3 CALL 1 END", "CALL 1 END", "", Bench.spending(293) + "END");
        Bench.raises(deep, 0, 0, DEEP);
        Bench.due("steps() with a DEEP call as the 300th", deep.steps(), 300);
        Bench.rewrite(deep, 3, Bench.spending(294) + "END");
        Bench.late(deep, 0, 0);
    }

    /** "16 CATCH k (0 .. 6), 17 LAST and 18 END are not items": behind 300 steps they are still passed. */
    private static void endsAreNoSteps() {
        EndingsLab x = Bench.lab("LOCK 0 TRY 6 CALL 3 END CATCH 0 END CATCH 0 END LAST END END END", "", "", Bench.spending(297) + "END");
        Bench.returns(x, 0, 7, 7);
        Bench.due("steps() up to many ENDs", x.steps(), 300);
        EndingsLab caught = Bench.lab("TRY 5 CALL 3 RAISE 1 END CATCH 1 END LAST END END", "", "", Bench.spending(297) + "END");
        Bench.returns(caught, 0, 7, 7);
        Bench.due("steps() up to an empty CATCH", caught.steps(), 300);
        EndingsLab times = Bench.lab("CALL 3 TIMES 5 END END", "", "", Bench.spending(298) + "END");
        Bench.returns(times, 0, 7, 7);
        Bench.due("steps() of five empty blocks", times.steps(), 300);
    }

    /** "ends at once, no block of LAST being done any more": in the block of TRY, of CATCH, of LAST; and no CATCH. */
    private static void noLastWhenLate() {
        for (int steps = 290; steps <= 300; steps++) {
            EndingsLab x = Bench.lab("TRY 6 CALL 3 ADD 1 RAISE 1 END CATCH 0 ADD 1 NOTE 1 END CATCH 0 NOTE 9 END LAST ADD 1 NOTE 2 END NOTE 3 END",
                "", "", Bench.spending(steps) + "END");
            int left = 300 - 2 - steps;
            Bench.due("run with " + left + " steps behind CALL", x.run(0, 0, false), left >= 7 ? 0 : 2);
            Bench.due("events() of it", x.events(), left >= 7 ? 3 : left == 6 ? 2 : left >= 4 ? 1 : 0);
            Bench.due("steps() of it", x.steps(), Math.min(300, 2 + steps + 7));
        }
        EndingsLab nested = Bench.lab("TRY 4 TRY 4 TRY 4 CALL 3 END LAST NOTE 1 END END LAST NOTE 2 END END LAST NOTE 3 END END",
            "", "", Bench.spending(300) + "END");
        Bench.late(nested, 0, 0);
        Bench.due("events() of nested LASTs", nested.events(), 0);
        EndingsLab inLast = Bench.lab("TRY 4 TRY 5 RAISE 1 END CATCH 2 NOTE 9 END LAST CALL 3 NOTE 1 END END LAST NOTE 2 END NOTE 3 END",
            "", "", Bench.spending(296) + "END");
        Bench.late(inLast, 0, 0);
        Bench.due("events() of a LAST that is LATE", inLast.events(), 0);
    }

    /** "the whole run is LATE": it does not end with a fault, so there is no MONITOR for what was entered. */
    private static void noMonitorWhenLate() {
        EndingsLab x = Bench.lab("ENTER 0 TRY 5 CALL 1 END CATCH 4 NOTE 1 END LAST NOTE 2 END END", "ENTER 1 CALL 3 END", "HELD 0 END", Bench.spending(300) + "END");
        Bench.late(x, 0, 0);
        Bench.due("events() of it", x.events(), 0);
        Bench.due("most() of it", x.most(), 2);
        EndingsLab y = Bench.lab("ENTER 0 CALL 3 NOTE 1 END", "", "", Bench.spending(298) + "END");
        Bench.late(y, 0, 0);
        Bench.due("events() of it", y.events(), 0);
        EndingsLab just = Bench.lab("ENTER 0 CALL 3 END", "", "", Bench.spending(298) + "END");
        Bench.raises(just, 0, 0, MONITOR);
        Bench.due("steps() of a run that is just not LATE", just.steps(), 300);
    }

    /** "the whole run is LATE": from inside of calls too, and steps are counted through all of them. */
    private static void lateInACall() {
        EndingsLab x = Bench.lab("TRY 5 CALL 1 END CATCH 0 NOTE 1 END LAST NOTE 2 END NOTE 3 END", "TRY 5 CALL 2 END CATCH 0 NOTE 4 END LAST NOTE 5 END END",
            "TIMES 5 CALL 3 END END", "TIMES 5 TIMES 5 ADD 1 END END END");
        Bench.returns(x, 0, 0, 125);
        Bench.due("steps() of calls", x.steps(), 2 + 2 + 1 + 5 * (1 + 1 + 5 + 25) + 3);
        x.wipe(3);
        Bench.write(x, 3, "TIMES 5 TIMES 5 ADD 1 ADD 1 END END END");
        Bench.returns(x, 0, 0, 250);
        Bench.due("steps() of calls", x.steps(), 293);
        x.wipe(3);
        Bench.write(x, 3, "TIMES 5 TIMES 5 ADD 1 ADD 1 END ADD 0 END END");
        Bench.late(x, 0, 0);
        Bench.due("value() after LATE", x.value(), 250);
        Bench.due("events() after LATE", x.events(), 6);
    }

    /** "No lock is HELD before and behind a run from outside." */
    private static void noLockBeforeAndBehind() {
        String held = "LOCK 2 HELD 0 ABOVE 0 NOTE 1 END HELD 1 ABOVE 0 NOTE 1 END END HELD 2 END";
        String[] before = {"ENTER 0 ENTER 1 LOCK 2 RAISE 1 END END", "ENTER 0 ENTER 1 LOCK 2 RETURN 1 END END", "ENTER 0 ENTER 0 ENTER 1 ENTER 2 END",
            "ENTER 0 LOCK 1 LOCK 2 CALL 3 END END END", "LOCK 0 CALL 2 END END"};
        for (String text : before) {
            EndingsLab x = Bench.lab(text, held, "ENTER 1 ENTER 2 TIMES 5 CALL 3 END END", Bench.spending(300) + "END");
            int answer = x.run(0, 0, false);
            Bench.due("the run before is RAISED or LATE", answer == EndingsLab.RAISED || answer == EndingsLab.LATE);
            Bench.returns(x, 1, 9, 0);
            Bench.due("events() of what was still HELD", x.events(), 0);
            Bench.due("most() begins anew", x.most(), 1);
            Bench.rewrite(x, 1, "LEAVE 0 END");
            Bench.raises(x, 1, 0, MONITOR);
        }
    }

    /** Promise 13, "limits": the deepest blocks in the deepest calls, in one run. */
    private static void longWays() {
        for (String opener : new String[] {"TIMES 1 ", "TRY 0 ", "LOCK 1 ", "ABOVE -9 "}) {
            EndingsLab x = Bench.lab(opener.repeat(5) + "NOTE 1 CALL 0" + " END".repeat(6));
            Bench.raises(x, 0, 0, DEEP);
            Bench.due("steps() of six runs of six blocks", x.steps(), 42);
            Bench.due("events() of six runs of six blocks", x.events(), 6);
            Bench.due("most() of six runs of six blocks", x.most(), opener.startsWith("LOCK") ? 30 : 0);
        }
        EndingsLab catches = Bench.lab("TRY 1 RAISE 1 END CATCH 0 ".repeat(5) + "CALL 0" + " END".repeat(6));
        Bench.raises(catches, 0, 0, DEEP);
        Bench.due("steps() of six runs in five CATCHes", catches.steps(), 66);
        EndingsLab lasts = Bench.lab("TRY 4 END LAST ".repeat(5) + "CALL 0" + " END".repeat(6));
        Bench.raises(lasts, 0, 0, DEEP);
        Bench.due("steps() of six runs in five LASTs", lasts.steps(), 36);
    }
}
