/** Promises 6 to 9, 12 and 13: what runs come to. */
public final class RunsTest {
    private static final int REFUSED = EndingsLab.REFUSED;
    private static final int WRONG = EndingsLab.WRONG;
    private static final int LATE = EndingsLab.LATE;
    private static final int FAULT = 0;
    private static final int SOFT = 1;
    private static final int HARD = 2;
    private static final int COLD = 3;
    private static final int MONITOR = 4;
    private static final int DEEP = 5;
    private static final int ZERO = 6;

    public static void main(String[] args) {
        whichTextsCount();
        plainItems();
        loops();
        kindsAreCaught();
        catches();
        causes();
        manyFaults();
        lastBlocks();
        forgottenEndings();
        locks();
        monitors();
        calls();
        depthOfCalls();
        lateRuns();
        stepsAreCounted();
        answersOfTheLastRun();
        threadsMakeNoDifference();
        Bench.finish("RunsTest");
    }

    private static void whichTextsCount() {
        EndingsLab x = Bench.lab("END");
        Bench.due("run(-1)", x.run(-1, 0, false), REFUSED);
        Bench.due("run(4)", x.run(4, 0, true), REFUSED);
        Bench.returns(x, 0, 12, 12);
        Bench.due("run of an empty text", x.run(3, 0, false), WRONG);
        Bench.due("place() of it", x.place(), 96);
        Bench.write(x, 2, "NOTE 1 BREAK");
        Bench.due("run beside a wrong text", x.run(0, 0, false), WRONG);
        Bench.due("place() of it", x.place(), 65);
        Bench.due("the least wrong text counts", x.run(3, 0, false), WRONG);
        Bench.due("place() of it", x.place(), 65);
        Bench.due("an empty one that is asked counts before", x.run(1, 0, false), WRONG);
        Bench.due("place() of it", x.place(), 32);
        Bench.due("a WRONG run notes nothing", x.events(), 0);
    }

    private static void plainItems() {
        EndingsLab x = Bench.lab("ADD 2147483647 END", "DIVIDE 3 END", "DIVIDE -1 END", "RETURN 5 NOTE 1 END");
        Bench.returns(x, 0, 1, Integer.MIN_VALUE);
        Bench.returns(x, 0, -1, 2147483646);
        Bench.returns(x, 1, 8, 2);
        Bench.returns(x, 1, -8, -2);
        Bench.returns(x, 2, Integer.MIN_VALUE, Integer.MIN_VALUE);
        Bench.returns(x, 2, 7, -7);
        Bench.returns(x, 3, Integer.MAX_VALUE, Integer.MIN_VALUE + 4);
        Bench.due("nothing is done behind RETURN", x.events(), 0);
        EndingsLab y = Bench.lab("DIVIDE 0 NOTE 1 END", "RAISE 3 NOTE 1 END",
            "ABOVE 7 NOTE 1 ADD 10 END ADD 1 END", "ABOVE -2147483648 ADD 1 END END");
        Bench.raises(y, 0, 5, ZERO);
        Bench.raises(y, 1, 5, COLD);
        Bench.returns(y, 2, 7, 8);
        Bench.due("ABOVE is not done for the same number", y.events(), 0);
        Bench.returns(y, 2, 8, 19);
        Bench.due("ABOVE is done for more", y.events(), 1);
        Bench.returns(y, 3, Integer.MIN_VALUE, Integer.MIN_VALUE);
        Bench.returns(y, 3, -2147483647, -2147483646);
    }

    private static void loops() {
        EndingsLab x = Bench.lab("TIMES 0 ADD 1 END END", "TIMES 5 ADD 1 END END",
            "TIMES 5 ADD 1 ABOVE 2 BREAK END ADD 10 END ADD 100 END",
            "TIMES 4 ADD 1 ABOVE 2 NEXT END ADD 10 END ADD 100 END");
        Bench.returns(x, 0, 3, 3);
        Bench.returns(x, 1, 3, 8);
        Bench.returns(x, 2, -30, 104);
        Bench.returns(x, 2, 0, 112);
        Bench.returns(x, 3, 0, 114);
        EndingsLab y = Bench.lab("TIMES 2 TIMES 3 ADD 1 BREAK END ADD 10 END END",
            "TIMES 2 TIMES 3 ADD 1 NEXT END ADD 10 END END",
            "TIMES 2 TIMES 3 ADD 1 RETURN 50 END END END",
            "TRY 1 TIMES 3 ADD 1 ABOVE 1 RAISE 1 END END END CATCH 1 ADD 20 END END");
        Bench.returns(y, 0, 0, 22);
        Bench.returns(y, 1, 0, 26);
        Bench.returns(y, 2, 0, 51);
        Bench.returns(y, 3, 0, 22);
    }

    private static void kindsAreCaught() {
        for (int raised = 0; raised <= 6; raised++) {
            for (int wanted = 0; wanted <= 6; wanted++) {
                boolean isOne = wanted == FAULT || wanted == raised || raised == COLD && wanted == SOFT
                    || raised == ZERO && wanted == HARD;
                EndingsLab x = Bench.lab("TRY 1 RAISE " + raised + " END CATCH " + wanted + " RETURN 1 END RETURN 2 END");
                if (isOne) {
                    Bench.returns(x, 0, 0, 1);
                } else {
                    Bench.raises(x, 0, 0, raised);
                }
            }
        }
    }

    private static void catches() {
        EndingsLab x = Bench.lab("TRY 2 ADD 1 RAISE 3 ADD 1 END CATCH 1 ADD 10 END CATCH 3 ADD 100 END END",
            "TRY 2 ADD 1 RAISE 3 END CATCH 2 ADD 10 END CATCH 0 ADD 100 END END",
            "TRY 2 RAISE 1 END CATCH 1 RAISE 2 END CATCH 2 ADD 100 END END",
            "TRY 2 ADD 1 END CATCH 0 ADD 10 END CATCH 0 ADD 100 END END");
        Bench.returns(x, 0, 0, 11);
        Bench.returns(x, 1, 0, 101);
        Bench.raises(x, 2, 0, HARD);
        Bench.returns(x, 3, 0, 1);
        EndingsLab y = Bench.lab("TRY 1 TRY 1 RAISE 1 END CATCH 2 ADD 10 END ADD 5 END CATCH 1 ADD 100 END END",
            "TRY 1 TRY 1 RAISE 1 END CATCH 1 RAISE 2 END END CATCH 2 ADD 100 END END",
            "TRY 1 RAISE 2 END CATCH 2 RETURN 3 END END",
            "TIMES 4 TRY 1 ADD 1 RAISE 1 END CATCH 1 ABOVE 2 BREAK END NEXT END ADD 100 END END");
        Bench.returns(y, 0, 0, 100);
        Bench.returns(y, 1, 0, 100);
        Bench.returns(y, 2, 4, 7);
        Bench.returns(y, 3, 0, 3);
    }

    private static void causes() {
        EndingsLab x = Bench.lab("TRY 1 RAISE 3 END CATCH 1 WRAP 2 END END",
            "TRY 1 TRY 1 RAISE 3 END CATCH 1 WRAP 2 END END CATCH 2 WRAP 5 END END",
            "TRY 1 RAISE 3 END CATCH 0 TRY 1 RAISE 6 END CATCH 0 END WRAP 1 END END",
            "TRY 1 RAISE 3 END CATCH 0 TRY 1 RAISE 6 END CATCH 0 WRAP 1 END END END");
        Bench.raises(x, 0, 0, HARD, COLD);
        Bench.raises(x, 1, 0, DEEP, HARD, COLD);
        Bench.raises(x, 2, 0, SOFT, COLD);
        Bench.raises(x, 3, 0, SOFT, ZERO);
        Bench.due("fault(-1)", x.fault(-1), REFUSED);
        Bench.due("fault(MIN)", x.fault(Integer.MIN_VALUE), REFUSED);
        Bench.due("fault(MAX)", x.fault(Integer.MAX_VALUE), REFUSED);
        EndingsLab y = Bench.lab("TRY 1 RAISE 3 END CATCH 0 TRY 5 RAISE 6 END CATCH 6 END LAST WRAP 1 END END END",
            "TRY 1 RAISE 3 END CATCH 0 TRY 1 WRAP 6 END CATCH 6 WRAP 2 END END END",
            "TRY 1 RAISE 3 END CATCH 0 TIMES 2 TRY 1 WRAP 6 END CATCH 6 END END WRAP 2 END END",
            "TRY 1 RAISE 3 END CATCH 0 TIMES 1 TRY 1 RAISE 6 END CATCH 6 BREAK END END WRAP 2 END END");
        Bench.raises(y, 0, 0, SOFT, COLD);
        Bench.raises(y, 1, 0, HARD, ZERO, COLD);
        Bench.raises(y, 2, 0, HARD, COLD);
        Bench.raises(y, 3, 0, HARD, COLD);
        EndingsLab z = Bench.lab("TRY 1 CALL 1 END CATCH 0 WRAP 2 END END", "TRY 1 RAISE 6 END CATCH 0 WRAP 1 END END",
            "TRY 1 RAISE 3 END CATCH 0 TRY 1 CALL 1 END CATCH 0 END WRAP 2 END END",
            "TRY 1 RAISE 3 END CATCH 0 RAISE 2 END END");
        Bench.raises(z, 0, 0, HARD, SOFT, ZERO);
        Bench.raises(z, 2, 0, HARD, COLD);
        Bench.raises(z, 3, 0, HARD);
    }

    private static void manyFaults() {
        EndingsLab x = Bench.lab("TRY 1 TIMES 5 TIMES 5 TRY 1 RAISE 2 END CATCH 0 END END END RAISE 3 END CATCH 0 WRAP 1 END END");
        for (int i = 0; i < 100; i++) {
            Bench.raises(x, 0, 0, SOFT, COLD);
        }
        Bench.rewrite(x, 0, "TIMES 5 TIMES 5 TIMES 5 TRY 1 LEAVE 0 END CATCH 4 END END END END RAISE 2 END");
        Bench.raises(x, 0, 0, HARD);
        Bench.due("steps() of 126 faults", x.steps(), 282);
    }

    private static void lastBlocks() {
        EndingsLab x = Bench.lab("TRY 4 ADD 1 END LAST ADD 10 END ADD 100 END",
            "TRY 4 RAISE 1 END LAST NOTE 7 END NOTE 8 END",
            "TRY 5 RAISE 1 END CATCH 1 NOTE 9 RAISE 2 END LAST NOTE 10 END NOTE 11 END",
            "TRY 4 RETURN 1 END LAST ADD 10 NOTE 12 END NOTE 13 END");
        Bench.returns(x, 0, 0, 111);
        Bench.raises(x, 1, 0, SOFT);
        Bench.raises(x, 2, 0, HARD);
        Bench.returns(x, 3, 0, 1);
        Bench.noted(x, 12, 10, 9, 7);
        EndingsLab y = Bench.lab("TRY 4 RAISE 1 END LAST RAISE 2 END END",
            "TRY 4 RETURN 1 END LAST RAISE 2 END END",
            "TRY 5 RAISE 1 END CATCH 0 RETURN 1 END LAST RETURN 2 END END",
            "TRY 5 RAISE 1 END CATCH 2 END LAST RETURN 3 END END");
        Bench.raises(y, 0, 0, HARD);
        Bench.raises(y, 1, 0, HARD);
        Bench.returns(y, 2, 0, 2);
        Bench.returns(y, 3, 0, 3);
        EndingsLab z = Bench.lab("TIMES 3 TRY 4 RETURN 1 END LAST ADD 1 BREAK END END END",
            "TIMES 3 TRY 4 RAISE 1 END LAST ADD 1 NEXT END END END",
            "TIMES 3 TRY 4 BREAK END LAST ADD 1 END ADD 10 END END",
            "TIMES 3 TRY 4 BREAK END LAST ADD 1 NEXT END ADD 10 END END");
        Bench.returns(z, 0, 0, 1);
        Bench.returns(z, 1, 0, 3);
        Bench.returns(z, 2, 0, 1);
        Bench.returns(z, 3, 0, 3);
        EndingsLab without = Bench.lab("TRY 0 ADD 1 END TIMES 1 ADD 10 END ADD 100 END",
            "TRY 1 RAISE 1 END CATCH 1 ADD 1 END TIMES 1 ADD 10 END ADD 100 END");
        Bench.returns(without, 0, 0, 111);
        Bench.returns(without, 1, 0, 111);
        EndingsLab nested = Bench.lab("TRY 4 TRY 4 RAISE 1 END LAST NOTE 1 END END LAST NOTE 2 END END");
        Bench.raises(nested, 0, 0, SOFT);
        Bench.noted(nested, 2, 1);
    }

    /** An ending inside of LAST that is forgotten in LAST again leaves the one before as it was. */
    private static void forgottenEndings() {
        EndingsLab x = Bench.lab(
            "TRY 4 RETURN 1 END LAST TIMES 1 TRY 4 RETURN 50 END LAST BREAK END END END END",
            "TRY 4 RAISE 3 END LAST TRY 1 RAISE 6 END CATCH 0 END END END",
            "TRY 4 RETURN 1 END LAST TRY 1 RAISE 6 END CATCH 0 END END END",
            "TRY 4 RAISE 3 END LAST TIMES 1 TRY 4 RETURN 50 END LAST BREAK END END END END");
        Bench.returns(x, 0, 0, 1);
        Bench.raises(x, 1, 0, COLD);
        Bench.returns(x, 2, 0, 1);
        Bench.raises(x, 3, 0, COLD);
        EndingsLab y = Bench.lab("TRY 4 RAISE 3 END LAST CALL 1 END END", "RETURN 9 END",
            "TRY 4 RETURN 2 END LAST CALL 1 TRY 1 CALL 3 END CATCH 0 END END END", "RAISE 2 END");
        Bench.raises(y, 0, 0, COLD);
        Bench.returns(y, 2, 0, 2);
    }

    private static void locks() {
        EndingsLab x = Bench.lab("LOCK 1 LOCK 1 LOCK 2 END END END HELD 1 END",
            "LOCK 1 HELD 1 END END", "LOCK 1 HELD 0 END END", "LOCK 0 CALL 1 END END");
        Bench.returns(x, 0, 7, 0);
        Bench.due("most() of nested locks", x.most(), 3);
        Bench.returns(x, 1, 7, 1);
        Bench.due("most() is of the last run", x.most(), 1);
        Bench.returns(x, 2, 7, 0);
        Bench.returns(x, 3, 7, 1);
        Bench.due("most() through a call", x.most(), 2);
        EndingsLab y = Bench.lab("TRY 1 LOCK 0 RAISE 1 END END CATCH 0 HELD 0 END END",
            "TIMES 2 LOCK 0 BREAK END END HELD 0 END", "CALL 3 HELD 2 END", "LOCK 2 HELD 2 RETURN 8 END END");
        Bench.returns(y, 0, 7, 0);
        Bench.returns(y, 1, 7, 0);
        Bench.returns(y, 2, 7, 0);
        Bench.returns(y, 3, 7, 9);
        EndingsLab z = Bench.lab("LOCK 0 END LOCK 1 END LOCK 2 END END", "TIMES 5 NEXT END END");
        Bench.returns(z, 0, 0, 0);
        Bench.due("most() of locks one after another", z.most(), 1);
        Bench.returns(z, 1, 0, 0);
        Bench.due("most() without locks", z.most(), 0);
    }

    private static void monitors() {
        EndingsLab x = Bench.lab("ENTER 1 HELD 1 LEAVE 1 END", "ENTER 1 RETURN 1 END", "ENTER 1 ENTER 2 RAISE 3 END",
            "LEAVE 0 END");
        Bench.returns(x, 0, 7, 1);
        Bench.raises(x, 1, 0, MONITOR);
        Bench.raises(x, 2, 0, MONITOR, COLD);
        Bench.due("most() of two entered", x.most(), 2);
        Bench.raises(x, 3, 0, MONITOR);
        Bench.due("nothing is held behind a run", x.run(0, 0, false), EndingsLab.RETURNED);
        Bench.due("most() of it", x.most(), 1);
        EndingsLab y = Bench.lab("LOCK 1 LEAVE 1 END END", "ENTER 0 TRY 1 LEAVE 1 END CATCH 4 LEAVE 0 END HELD 0 END",
            "TRY 1 CALL 3 END CATCH 4 END HELD 2 END", "ENTER 2 ENTER 2 ENTER 0 LEAVE 2 END");
        Bench.raises(y, 0, 0, MONITOR);
        Bench.returns(y, 1, 7, 0);
        Bench.returns(y, 2, 7, 0);
        Bench.due("most() of what was entered", y.most(), 3);
        Bench.raises(y, 3, 0, MONITOR);
        EndingsLab z = Bench.lab("ENTER 0 CALL 1 LEAVE 0 END", "LEAVE 0 END",
            "ENTER 0 CALL 3 LEAVE 0 HELD 0 END", "ENTER 0 LEAVE 0 HELD 0 ADD 5 END");
        Bench.raises(z, 0, 0, MONITOR, MONITOR);
        Bench.returns(z, 2, 0, 0);
        Bench.due("most() of entering twice", z.most(), 2);
        EndingsLab leaves = Bench.lab("ENTER 0 LEAVE 0 TRY 1 LEAVE 0 END CATCH 4 END ENTER 0 LEAVE 0 END",
            "TRY 4 RETURN 3 END LAST ENTER 1 END END", "ENTER 0 TIMES 1 LOCK 0 END END HELD 0 NOTE 5 LEAVE 0 END");
        Bench.returns(leaves, 0, 3, 3);
        Bench.raises(leaves, 1, 0, MONITOR);
        Bench.returns(leaves, 2, 0, 1);
    }

    private static void calls() {
        EndingsLab x = Bench.lab("ADD 1 CALL 1 ADD 100 END", "ADD 10 RETURN 1000 END", "CALL 3 ADD 1 END");
        Bench.returns(x, 0, 0, 1111);
        Bench.returns(x, 2, 41, 42);
        Bench.due("steps() with a call of an empty text", x.steps(), 2);
        EndingsLab y = Bench.lab("ADD 1 TRY 1 CALL 1 END CATCH 1 ADD 100 END END", "ADD 10 RAISE 3 END",
            "TIMES 2 CALL 3 END END", "TIMES 1 ADD 5 BREAK END END");
        Bench.returns(y, 0, 0, 101);
        Bench.raises(y, 1, 0, COLD);
        Bench.returns(y, 2, 0, 10);
        EndingsLab z = Bench.lab("ABOVE 3 RETURN 0 END ADD 1 CALL 0 ADD 10 END");
        Bench.returns(z, 0, 0, 44);
    }

    private static void depthOfCalls() {
        EndingsLab x = Bench.lab("NOTE 1 CALL 0 END", "ADD 1 ABOVE 4 CALL 2 RETURN 0 END CALL 1 END", "NOTE 3 END");
        Bench.raises(x, 0, 0, DEEP);
        Bench.due("steps() of six runs", x.steps(), 12);
        Bench.due("events() of six runs", x.events(), 6);
        Bench.returns(x, 1, 0, 5);
        Bench.due("the fifth call is done", x.event(0), 3);
        Bench.raises(x, 1, -1, DEEP);
        EndingsLab empty = Bench.lab("ADD 1 ABOVE 5 CALL 3 RETURN 0 END CALL 0 END");
        Bench.raises(empty, 0, 0, DEEP);
        Bench.returns(empty, 0, 1, 6);
        EndingsLab caught = Bench.lab("TRY 1 CALL 0 END CATCH 5 ADD 1 END END");
        Bench.returns(caught, 0, 0, 1);
        EndingsLab lowest = Bench.lab("TRY 4 END LAST ".repeat(5) + "CALL 0" + " END".repeat(6));
        Bench.raises(lowest, 0, 0, DEEP);
        Bench.due("steps() of the longest way down", lowest.steps(), 36);
        EndingsLab entered = Bench.lab("ENTER 1 CALL 0 LEAVE 1 END");
        Bench.raises(entered, 0, 0, MONITOR, MONITOR, MONITOR, MONITOR, MONITOR, MONITOR, DEEP);
        Bench.due("most() of six runs that enter", entered.most(), 6);
    }

    private static void lateRuns() {
        String of281 = "TIMES 5 TIMES 5 TIMES 5 NOTE 1 END TIMES 4 NOTE 2 END END END ";
        EndingsLab x = Bench.lab(of281 + "END");
        Bench.returns(x, 0, 3, 3);
        Bench.due("steps() of the loops", x.steps(), 281);
        Bench.rewrite(x, 0, of281 + "TIMES 3 ADD 1 ADD 1 ADD 1 ADD 1 ADD 1 END ADD 0 ADD 0 ADD 0 END");
        Bench.returns(x, 0, 0, 15);
        Bench.due("steps() just in time", x.steps(), 300);
        Bench.rewrite(x, 0, of281 + "TIMES 3 ADD 1 ADD 1 ADD 1 ADD 1 ADD 1 END ADD 0 ADD 0 ADD 0 NOTE 9 END");
        Bench.due("run of 301 steps", x.run(0, 50, false), LATE);
        Bench.due("steps() of it", x.steps(), 300);
        Bench.due("the 301st step is not begun", x.event(0), 2);
        Bench.due("value() after LATE", x.value(), 15);
        Bench.due("fault(0) after LATE", x.fault(0), REFUSED);
        EndingsLab y = Bench.lab("TRY 6 ENTER 1 LOCK 1 CALL 1 END END CATCH 0 NOTE 8 END CATCH 0 NOTE 8 END LAST NOTE 9 END END",
            "TIMES 5 TIMES 5 TIMES 5 TIMES 5 ADD 1 END END END END END", "HELD 1 END");
        Bench.due("run that is late in a call", y.run(0, 0, false), LATE);
        Bench.due("no handler, no last block", y.events(), 0);
        Bench.due("most() of a LATE run", y.most(), 2);
        Bench.due("fault(0) of a LATE run", y.fault(0), REFUSED);
        Bench.returns(y, 2, 5, 0);
        Bench.due("most() of the next run", y.most(), 0);
        Bench.rewrite(y, 2, "LOCK 2 END END");
        Bench.due("another LATE run", y.run(0, 0, true), LATE);
        Bench.returns(y, 2, 5, 5);
        Bench.due("nothing is held behind a LATE run", y.most(), 1);
    }

    private static void stepsAreCounted() {
        EndingsLab x = Bench.lab("TIMES 3 END TRY 5 RAISE 1 END CATCH 0 END LAST END END", "END",
            "NOTE 1 LOCK 0 ABOVE 99 NOTE 2 END END HELD 0 END", "RETURN 1 NOTE 1 END");
        Bench.returns(x, 0, 0, 0);
        Bench.due("steps() of TIMES, TRY and RAISE", x.steps(), 3);
        Bench.returns(x, 1, 0, 0);
        Bench.due("steps() of no item", x.steps(), 0);
        Bench.returns(x, 2, 0, 0);
        Bench.due("steps() of what is begun", x.steps(), 4);
        Bench.returns(x, 3, 0, 1);
        Bench.due("steps() up to RETURN", x.steps(), 1);
        EndingsLab y = Bench.lab("LEAVE 0 END", "DIVIDE 0 END", "TIMES 2 BREAK END TIMES 2 NEXT END END");
        y.run(0, 0, false);
        Bench.due("steps() of a wrong LEAVE", y.steps(), 1);
        y.run(1, 0, false);
        Bench.due("steps() of a wrong DIVIDE", y.steps(), 1);
        y.run(2, 0, false);
        Bench.due("steps() of BREAK and NEXT", y.steps(), 5);
    }

    private static void answersOfTheLastRun() {
        EndingsLab x = Bench.lab("LOCK 0 LOCK 1 RAISE 3 END END END", "RETURN 5 END");
        Bench.returns(x, 1, 1, 6);
        Bench.raises(x, 0, 0, COLD);
        Bench.due("value() after RAISED", x.value(), 6);
        x.token(2, 4, 0);
        Bench.due("a WRONG run", x.run(1, 1, false), WRONG);
        Bench.due("a REFUSED run", x.run(9, 1, false), REFUSED);
        Bench.due("fault(0) after WRONG and REFUSED", x.fault(0), COLD);
        Bench.due("steps() after WRONG and REFUSED", x.steps(), 3);
        Bench.due("most() after WRONG and REFUSED", x.most(), 2);
        Bench.due("value() after WRONG and REFUSED", x.value(), 6);
        x.wipe(2);
        x.wipe(0);
        Bench.due("fault(0) after wipe", x.fault(0), COLD);
        Bench.returns(x, 1, 2, 7);
        Bench.due("steps() of the next run", x.steps(), 1);
        Bench.due("most() of the next run", x.most(), 0);
    }

    private static void threadsMakeNoDifference() {
        EndingsLab x = Bench.lab("NOTE 1 ADD 4 END", "RAISE 2 END", "TIMES 5 CALL 3 END END", "TIMES 5 TIMES 5 TIMES 5 END END END END");
        for (int i = 0; i < 2; i++) {
            boolean own = i == 1;
            Bench.due("run(0, 1, " + own + ")", x.run(0, 1, own), EndingsLab.RETURNED);
            Bench.due("value()", x.value(), 5);
            Bench.due("run(1, 1, " + own + ")", x.run(1, 1, own), EndingsLab.RAISED);
            Bench.due("fault(0)", x.fault(0), HARD);
            Bench.due("run(2, 1, " + own + ")", x.run(2, 1, own), EndingsLab.RETURNED);
            Bench.due("steps()", x.steps(), 6 + 5 * 31);
            Bench.due("events()", x.events(), i + 1);
        }
    }
}
