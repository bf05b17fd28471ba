/** Promises 1 to 5 and the order of 13: new objects, texts, and where they are wrong. */
public final class TextsTest {
    private static final int REFUSED = EndingsLab.REFUSED;
    private static final int FULL = EndingsLab.FULL;
    private static final int WRONG = EndingsLab.WRONG;

    public static void main(String[] args) {
        newObject();
        rangesOfTokens();
        tokensAreCounted();
        wiping();
        goodTexts();
        wrongTexts();
        depthOfBlocks();
        placeFollowsTheLastAnswer();
        Bench.finish("TextsTest");
    }

    private static void newObject() {
        EndingsLab x = new EndingsLab();
        Bench.due("place() at first", x.place(), REFUSED);
        Bench.due("value() at first", x.value(), 0);
        Bench.due("fault(0) at first", x.fault(0), REFUSED);
        Bench.due("steps() at first", x.steps(), 0);
        Bench.due("events() at first", x.events(), 0);
        Bench.due("event(0) at first", x.event(0), REFUSED);
        Bench.due("most() at first", x.most(), 0);
        for (int p = 0; p < 4; p++) {
            Bench.due("wipe(" + p + ") at first", x.wipe(p), 0);
            Bench.due("check(" + p + ") at first", x.check(p), WRONG);
            Bench.due("place() of the empty text " + p, x.place(), 32 * p);
        }
        x.token(0, 0, 1);
        Bench.due("another object has its own state", new EndingsLab().wipe(0), 0);
    }

    private static void rangesOfTokens() {
        int[] ops = {7, 8, 16, 10, 11, 12, 15, 13, 3};
        int[] greatest = {6, 6, 6, 2, 2, 2, 2, 3, 5};
        for (int i = 0; i < ops.length; i++) {
            EndingsLab x = new EndingsLab();
            int op = ops[i];
            refused(x, op, -1);
            refused(x, op, greatest[i] + 1);
            refused(x, op, Integer.MIN_VALUE);
            refused(x, op, Integer.MAX_VALUE);
            for (int a = 0; a <= greatest[i]; a++) {
                Bench.due("token(0, " + op + ", " + a + ")", x.token(0, op, a), a + 1);
            }
        }
        EndingsLab tries = new EndingsLab();
        int taken = 0;
        for (int a = -20; a <= 20; a++) {
            boolean isSum = a == 0 || a == 1 || a == 2 || a == 4 || a == 5 || a == 6;
            taken += isSum ? 1 : 0;
            Bench.due("token(0, 9, " + a + ")", tries.token(0, 9, a), isSum ? taken : REFUSED);
        }
        refused(tries, 9, Integer.MIN_VALUE);
        refused(tries, 9, Integer.MIN_VALUE + 4);
        EndingsLab any = new EndingsLab();
        int size = 0;
        for (int op : new int[] {0, 1, 2, 4, 5, 6, 14, 17, 18}) {
            for (int a : new int[] {Integer.MIN_VALUE, -1, Integer.MAX_VALUE}) {
                size++;
                Bench.due("token(3, " + op + ", " + a + ")", any.token(3, op, a), size);
            }
        }
        for (int op : new int[] {-1, 19, Integer.MIN_VALUE, Integer.MAX_VALUE}) {
            refused(any, op, 0);
        }
        Bench.due("token(-1, 0, 0)", any.token(-1, 0, 0), REFUSED);
        Bench.due("token(4, 0, 0)", any.token(4, 0, 0), REFUSED);
        Bench.due("what was refused was not appended", any.wipe(3), size);
    }

    private static void refused(EndingsLab x, int op, int a) {
        Bench.due("token(0, " + op + ", " + a + ")", x.token(0, op, a), REFUSED);
    }

    private static void tokensAreCounted() {
        EndingsLab x = new EndingsLab();
        for (int i = 1; i <= 32; i++) {
            Bench.due("token " + i, x.token(2, 0, i), i);
        }
        Bench.due("token 33", x.token(2, 0, 0), FULL);
        Bench.due("REFUSED before FULL, by the op", x.token(2, 19, 0), REFUSED);
        Bench.due("REFUSED before FULL, by the number", x.token(2, 3, 6), REFUSED);
        Bench.due("another text is not full", x.token(1, 18, 0), 1);
        Bench.due("check of 32 tokens without END", x.check(2), WRONG);
        Bench.due("place of 32 tokens without END", x.place(), 2 * 32 + 32);
        Bench.due("wipe of a full text", x.wipe(2), 32);
        Bench.due("token after wipe", x.token(2, 18, 0), 1);
        EndingsLab full = Bench.lab("TIMES 1 ".repeat(5) + "NOTE 1 ".repeat(21) + "END ".repeat(6));
        Bench.due("check of a good text of 32", full.check(0), 0);
        Bench.returns(full, 0, 9, 9);
        Bench.due("events of a good text of 32", full.events(), 21);
    }

    private static void wiping() {
        EndingsLab x = Bench.lab("NOTE 1 END", "END");
        Bench.due("wipe(-1)", x.wipe(-1), REFUSED);
        Bench.due("wipe(4)", x.wipe(4), REFUSED);
        Bench.due("wipe(0)", x.wipe(0), 2);
        Bench.due("wipe(0) again", x.wipe(0), 0);
        Bench.due("check of the wiped text", x.check(0), WRONG);
        Bench.due("check of the other text", x.check(1), 0);
        Bench.due("check(-1)", x.check(-1), REFUSED);
        Bench.due("check(4)", x.check(4), REFUSED);
    }

    private static void goodTexts() {
        good("END");
        good("NOTE 1 ADD 2 DIVIDE 3 RETURN 4 RAISE 5 ENTER 0 LEAVE 1 CALL 2 HELD 2 END");
        good("TIMES 0 BREAK NEXT END END");
        good("TIMES 5 ABOVE 0 LOCK 1 TRY 0 BREAK END END END END END");
        good("TIMES 1 TRY 5 NEXT END CATCH 0 BREAK END LAST NEXT END END END");
        good("TRY 0 END END");
        good("TRY 4 END LAST END END");
        good("TRY 2 END CATCH 0 END CATCH 6 END END");
        good("TRY 6 END CATCH 0 WRAP 1 END CATCH 6 WRAP 2 END LAST END END");
        good("TRY 1 END CATCH 0 TRY 4 WRAP 3 END LAST WRAP 4 END ABOVE 0 WRAP 5 END END END");
        good("TRY 1 TRY 1 END CATCH 1 END END CATCH 2 END END");
    }

    private static void good(String text) {
        EndingsLab x = Bench.lab("", "", text);
        Bench.due("check of " + text, x.check(2), 0);
        Bench.due("place() after a good check of " + text, x.place(), REFUSED);
    }

    private static void wrongTexts() {
        wrong(0, "");
        wrong(1, "NOTE 1");
        wrong(1, "END END");
        wrong(2, "NOTE 1 END NOTE 1");
        wrong(2, "TIMES 1 END");
        wrong(0, "BREAK END");
        wrong(0, "NEXT END");
        wrong(2, "TIMES 1 END BREAK END");
        wrong(2, "TIMES 1 END NEXT END");
        wrong(1, "ABOVE 1 BREAK END END");
        wrong(1, "LOCK 1 NEXT END END");
        wrong(1, "TRY 1 BREAK END CATCH 0 END END");
        wrong(3, "TRY 1 END CATCH 0 BREAK END END");
        wrong(3, "TRY 4 END LAST NEXT END END");
        wrong(0, "WRAP 1 END");
        wrong(1, "TIMES 1 WRAP 1 END END");
        wrong(1, "ABOVE 1 WRAP 1 END END");
        wrong(1, "LOCK 1 WRAP 1 END END");
        wrong(3, "TRY 4 END LAST WRAP 1 END END");
        wrong(1, "TRY 1 WRAP 1 END CATCH 0 END END");
        wrong(5, "TRY 5 END CATCH 0 END LAST WRAP 1 END END");
        wrong(4, "TRY 1 END CATCH 0 END WRAP 1 END");
        wrong(0, "CATCH 0 END END");
        wrong(0, "LAST END END");
        wrong(2, "TRY 0 END CATCH 0 END END");
        wrong(2, "TRY 0 END LAST END END");
        wrong(2, "TRY 1 END END");
        wrong(2, "TRY 1 END NOTE 1");
        wrong(2, "TRY 1 END");
        wrong(2, "TRY 1 END LAST END CATCH 0 END END");
        wrong(2, "TRY 5 END LAST END");
        wrong(4, "TRY 1 END CATCH 0 END CATCH 0 END END");
        wrong(4, "TRY 1 END CATCH 0 END LAST END END");
        wrong(4, "TRY 2 END CATCH 0 END END");
        wrong(4, "TRY 2 END CATCH 0 END LAST END");
        wrong(2, "TRY 4 END CATCH 0 END LAST END END");
        wrong(2, "TRY 4 END END");
        wrong(4, "TRY 4 END LAST END LAST END END");
        wrong(1, "TRY 1 CATCH 0 END END");
        wrong(1, "TRY 4 LAST END END");
        wrong(5, "TRY 6 END CATCH 0 END CATCH 1 LAST END");
        wrong(1, "TIMES 1 CATCH 0 END END");
    }

    private static void wrong(int place, String text) {
        for (int p = 0; p < 4; p++) {
            EndingsLab x = new EndingsLab();
            Bench.write(x, p, text);
            Bench.due("check of " + text, x.check(p), WRONG);
            Bench.due("place() of " + text + " as " + p, x.place(), 32 * p + place);
            Bench.due("run of " + text, x.run(p, 0, false), WRONG);
            Bench.due("place() of the run of " + text + " as " + p, x.place(), 32 * p + place);
        }
    }

    private static void depthOfBlocks() {
        for (String opener : new String[] {"TIMES 1", "TRY 0", "LOCK 0", "ABOVE 0"}) {
            String five = (opener + " ").repeat(5);
            good(five + "NOTE 1 END ".repeat(6));
            wrong(5, five + opener + " END".repeat(7));
            wrong(6, five + "NOTE 1 " + opener);
            wrong(5, five);
        }
        wrong(5, "ABOVE 0 ABOVE 0 ABOVE 0 ABOVE 0 ABOVE 0 TRY 4 END");
        good("ABOVE 0 ABOVE 0 ABOVE 0 ABOVE 0 TRY 6 END CATCH 0 END CATCH 1 WRAP 1 END LAST NOTE 1 END END END END END END");
        wrong(6, "ABOVE 0 ABOVE 0 ABOVE 0 ABOVE 0 TRY 4 END NOTE 1");
        wrong(7, "ABOVE 0 ABOVE 0 ABOVE 0 ABOVE 0 TRY 4 END LAST LOCK 0 END");
    }

    private static void placeFollowsTheLastAnswer() {
        EndingsLab x = Bench.lab("BREAK", "END", "NOTE 1");
        Bench.due("check(2)", x.check(2), WRONG);
        Bench.due("place() of check(2)", x.place(), 65);
        x.check(4);
        x.check(-1);
        x.run(4, 0, false);
        x.run(-1, 0, true);
        Bench.due("place() after answers that were REFUSED", x.place(), 65);
        x.wipe(2);
        x.token(2, 18, 0);
        Bench.due("place() is of the check, whatever the text is now", x.place(), 65);
        Bench.due("check(2) of the mended text", x.check(2), 0);
        Bench.due("place() after 0", x.place(), REFUSED);
        Bench.due("run with a wrong text elsewhere", x.run(2, 0, false), WRONG);
        Bench.due("place() of the run", x.place(), 0);
        Bench.rewrite(x, 0, "RAISE 1 END");
        Bench.due("run that is RAISED", x.run(0, 0, false), EndingsLab.RAISED);
        Bench.due("place() after RAISED", x.place(), REFUSED);
        x.check(3);
        Bench.due("place() of check(3)", x.place(), 96);
        Bench.due("run that is RETURNED", x.run(1, 0, false), EndingsLab.RETURNED);
        Bench.due("place() after RETURNED", x.place(), REFUSED);
        x.check(3);
        Bench.rewrite(x, 0, "TIMES 5 TIMES 5 TIMES 5 TIMES 5 NOTE 1 END END END END END");
        Bench.due("run that is LATE", x.run(0, 0, false), EndingsLab.LATE);
        Bench.due("place() after LATE", x.place(), REFUSED);
    }
}
