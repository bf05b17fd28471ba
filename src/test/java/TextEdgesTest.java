/** The edges of promises 1 to 5 and 13: above each test stands the sentence of the document that it holds to. */
public final class TextEdgesTest {
    private static final int REFUSED = EndingsLab.REFUSED;
    private static final int FULL = EndingsLab.FULL;
    private static final int WRONG = EndingsLab.WRONG;
    private static final int MIN = Integer.MIN_VALUE;
    private static final int MAX = Integer.MAX_VALUE;

    private static final int[] NO_PROCEDURES = {-1, 4, 5, 32, MIN, MAX};
    private static final String[] OPENERS = {"TIMES 1", "TRY 0", "TRY 4", "LOCK 0", "ABOVE 0"};
    private static final String[] GOOD_TEXTS = {
        "END",
        "NOTE 1 ADD 2 DIVIDE 0 RETURN 4 RAISE 5 ENTER 0 LEAVE 1 CALL 2 HELD 2 END",
        "TIMES 0 BREAK NEXT END TIMES 5 END END",
        "LOCK 0 LOCK 1 LOCK 2 END END ABOVE 0 END END END",
        "TRY 0 END TRY 1 END CATCH 0 END TRY 2 END CATCH 1 END CATCH 2 END END",
        "TRY 4 END LAST END TRY 5 END CATCH 3 END LAST END TRY 6 END CATCH 4 END CATCH 5 END LAST END END",
        "TRY 1 END CATCH 0 WRAP 6 TIMES 2 WRAP 0 BREAK END LOCK 0 WRAP 1 END END END",
        "TIMES 1 TRY 6 BREAK END CATCH 0 NEXT WRAP 2 END CATCH 6 BREAK WRAP 1 END LAST NEXT END BREAK END END",
        "TRY 0 TRY 0 TRY 0 TRY 0 TRY 0 NOTE 1 END END END END END END",
        "ABOVE 0 ABOVE 0 ABOVE 0 ABOVE 0 TRY 6 NOTE 1 END CATCH 0 WRAP 1 END CATCH 1 WRAP 1 END LAST ADD 1 END END END END END END"
    };

    public static void main(String[] args) {
        stateOfTheTerms();
        objectsAreApart();
        procedures0To3();
        ops0To18();
        rangesThatAreSaid();
        sumsOfTry();
        elseAny();
        howManyTokensItHas();
        fullWith32();
        refusedBeforeFull();
        theTextIsEmpty();
        justOneBlock();
        breakAndNextInsideOfTimes();
        wrapInsideOfCatch();
        notInsideOfMoreThan6Blocks();
        justWhereTrySays();
        theFirstToken();
        ofAnyLength();
        numberOfTokensIfAllAreOne();
        refusedAfterAnotherAnswer();
        refusedDoesNotCount();
        Bench.finish("TextEdgesTest");
    }

    /** "makes an object in the state that the terms give": no token, no run yet. */
    private static void stateOfTheTerms() {
        for (int p = 0; p < 4; p++) {
            Bench.due("wipe(" + p + ") of a new object", new EndingsLab().wipe(p), 0);
            Bench.due("token(" + p + ", 18, 0) of a new object", new EndingsLab().token(p, 18, 0), 1);
            Bench.due("check(" + p + ") of a new object", new EndingsLab().check(p), WRONG);
            Bench.due("run(" + p + ", 1, false) of a new object", new EndingsLab().run(p, 1, false), WRONG);
            Bench.due("run(" + p + ", 1, true) of a new object", new EndingsLab().run(p, 1, true), WRONG);
        }
        Bench.due("place() of a new object", new EndingsLab().place(), REFUSED);
        Bench.due("value() of a new object", new EndingsLab().value(), 0);
        Bench.due("fault(0) of a new object", new EndingsLab().fault(0), REFUSED);
        Bench.due("steps() of a new object", new EndingsLab().steps(), 0);
        Bench.due("events() of a new object", new EndingsLab().events(), 0);
        Bench.due("event(0) of a new object", new EndingsLab().event(0), REFUSED);
        Bench.due("event(31) of a new object", new EndingsLab().event(31), REFUSED);
        Bench.due("most() of a new object", new EndingsLab().most(), 0);
    }

    /** "makes an object": what another one has done leaves no trace in it. */
    private static void objectsAreApart() {
        EndingsLab used = Bench.lab("LOCK 0 NOTE 5 RETURN 6 END END", "RAISE 1 END");
        EndingsLab beside = new EndingsLab();
        used.run(0, 1, false);
        used.run(1, 1, false);
        used.check(2);
        for (EndingsLab x : new EndingsLab[] {beside, new EndingsLab()}) {
            Bench.due("place() beside another object", x.place(), REFUSED);
            Bench.due("value() beside another object", x.value(), 0);
            Bench.due("fault(0) beside another object", x.fault(0), REFUSED);
            Bench.due("steps() beside another object", x.steps(), 0);
            Bench.due("events() beside another object", x.events(), 0);
            Bench.due("most() beside another object", x.most(), 0);
            Bench.due("wipe(0) beside another object", x.wipe(0), 0);
        }
        Bench.due("the other object keeps its value()", used.value(), 7);
        Bench.due("the other object keeps its place()", used.place(), 64);
        Bench.due("the other object keeps its text", used.wipe(0), 5);
    }

    /** "PROCEDURES 0 .. 3"; "REFUSED for others". */
    private static void procedures0To3() {
        EndingsLab x = new EndingsLab();
        for (int p = 0; p < 4; p++) {
            for (int size = 1; size <= p + 1; size++) {
                Bench.due("token(" + p + ", 18, 0)", x.token(p, 18, 0), size);
            }
        }
        for (int p : NO_PROCEDURES) {
            Bench.due("token(" + p + ", 18, 0)", x.token(p, 18, 0), REFUSED);
            Bench.due("wipe(" + p + ")", x.wipe(p), REFUSED);
            Bench.due("check(" + p + ")", x.check(p), REFUSED);
            Bench.due("run(" + p + ", 0, false)", x.run(p, 0, false), REFUSED);
            Bench.due("run(" + p + ", 0, true)", x.run(p, 0, true), REFUSED);
        }
        Bench.due("check(0) of END", x.check(0), 0);
        for (int p = 0; p < 4; p++) {
            Bench.due("wipe(" + p + ") of a text of its own", x.wipe(p), p + 1);
        }
    }

    /** "op 0 .. 18"; "REFUSED for others". */
    private static void ops0To18() {
        for (int p = 0; p < 4; p++) {
            EndingsLab x = new EndingsLab();
            for (int op = 0; op <= 18; op++) {
                Bench.due("token(" + p + ", " + op + ", 0)", x.token(p, op, 0), op + 1);
            }
            for (int op : new int[] {-1, 19, 20, 31, 32, MIN, MAX}) {
                Bench.due("token(" + p + ", " + op + ", 0)", x.token(p, op, 0), REFUSED);
            }
            Bench.due("wipe behind refused tokens", x.wipe(p), 19);
        }
    }

    /** "a in the range that is said": TIMES 0 .. 5, kinds 0 .. 6, locks 0 .. 2, procedures 0 .. 3. */
    private static void rangesThatAreSaid() {
        range(3, 5);
        range(7, 6);
        range(8, 6);
        range(16, 6);
        range(10, 2);
        range(11, 2);
        range(12, 2);
        range(15, 2);
        range(13, 3);
    }

    private static void range(int op, int greatest) {
        for (int p = 0; p < 4; p++) {
            EndingsLab x = new EndingsLab();
            for (int a = -9; a <= 9; a++) {
                int want = a >= 0 && a <= greatest ? a + 1 : REFUSED;
                Bench.due("token(" + p + ", " + op + ", " + a + ")", x.token(p, op, a), want);
            }
            for (int a : new int[] {MIN, MIN + 1, -32, 16, 32, 256, 65536, MAX - 1, MAX}) {
                Bench.due("token(" + p + ", " + op + ", " + a + ")", x.token(p, op, a), REFUSED);
            }
            Bench.due("wipe behind refused tokens", x.wipe(p), greatest + 1);
        }
    }

    /** "TRY a (a sum: 0, 1 or 2, and 4 or not)". */
    private static void sumsOfTry() {
        EndingsLab x = new EndingsLab();
        int taken = 0;
        for (int a = -40; a <= 40; a++) {
            boolean isSum = a >= 0 && a <= 2 || a >= 4 && a <= 6;
            taken += isSum ? 1 : 0;
            Bench.due("token(0, 9, " + a + ")", x.token(0, 9, a), isSum ? taken : REFUSED);
        }
        for (int a : new int[] {MIN, MIN + 1, MIN + 4, MAX - 3, MAX, 256, 260, 65540}) {
            Bench.due("token(0, 9, " + a + ")", x.token(0, 9, a), REFUSED);
        }
        Bench.due("wipe behind the sums", x.wipe(0), 6);
    }

    /** "else any": NOTE, ADD, DIVIDE, RETURN and ABOVE take every int, and so do the tokens that use none. */
    private static void elseAny() {
        for (int op : new int[] {0, 1, 2, 4, 5, 6, 14, 17, 18}) {
            EndingsLab x = new EndingsLab();
            int size = 0;
            for (int a : new int[] {0, 1, -1, 7, -7, 32, 1000, MIN, MIN + 1, MAX, MAX - 1}) {
                size++;
                Bench.due("token(1, " + op + ", " + a + ")", x.token(1, op, a), size);
            }
        }
        EndingsLab odd = Bench.lab("TIMES 1 TRY 4 BREAK 77 END -1 LAST -2147483648 NEXT -3 END 2147483647 END 5 END 6");
        Bench.due("numbers that are not used do not spoil a text", odd.check(0), 0);
        Bench.returns(odd, 0, 4, 4);
    }

    /** "how many tokens it has": each text for itself, and from 1 again when it was wiped. */
    private static void howManyTokensItHas() {
        EndingsLab x = new EndingsLab();
        for (int i = 1; i <= 32; i++) {
            for (int p = 0; p < 4; p++) {
                Bench.due("token " + i + " of " + p, x.token(p, 1, i), i);
            }
        }
        for (int p = 0; p < 4; p++) {
            Bench.due("wipe of a full text " + p, x.wipe(p), 32);
            Bench.due("the first token again of " + p, x.token(p, 1, 0), 1);
            Bench.due("the second token again of " + p, x.token(p, 1, 0), 2);
        }
    }

    /** "FULL with 32": not with 31, and what was not taken leaves no trace. */
    private static void fullWith32() {
        for (int p = 0; p < 4; p++) {
            EndingsLab x = new EndingsLab();
            for (int i = 0; i < 31; i++) {
                x.token(p, 1, 1);
            }
            Bench.due("the 32nd token", x.token(p, 18, 0), 32);
            for (int op = 0; op <= 18; op++) {
                Bench.due("a 33rd token", x.token(p, op, 0), FULL);
            }
            Bench.due("check of a full text", x.check(p), 0);
            Bench.returns(x, p, 0, 31);
            Bench.due("wipe of a full text", x.wipe(p), 32);
            Bench.due("a token behind that", x.token(p, 18, 0), 1);
        }
    }

    /** "token tests REFUSED before FULL." */
    private static void refusedBeforeFull() {
        EndingsLab x = new EndingsLab();
        for (int i = 0; i < 4 * 32; i++) {
            x.token(i / 32, 0, i);
        }
        for (int p = 0; p < 4; p++) {
            Bench.due("op 19 in a full text", x.token(p, 19, 0), REFUSED);
            Bench.due("op -1 in a full text", x.token(p, -1, 0), REFUSED);
            for (int op : new int[] {3, 7, 8, 9, 10, 11, 12, 13, 15, 16}) {
                Bench.due("op " + op + ", 7 in a full text", x.token(p, op, 7), REFUSED);
                Bench.due("op " + op + ", -1 in a full text", x.token(p, op, -1), REFUSED);
                Bench.due("op " + op + ", 0 in a full text", x.token(p, op, 0), FULL);
            }
        }
        Bench.due("procedure 4 beside full texts", x.token(4, 0, 0), REFUSED);
        Bench.due("procedure -1 beside full texts", x.token(-1, 0, 0), REFUSED);
    }

    /** "The text is empty: how many tokens it had." */
    private static void theTextIsEmpty() {
        for (int size = 0; size <= 32; size++) {
            EndingsLab x = Bench.lab("", "ADD 5 END");
            for (int i = 0; i < size; i++) {
                x.token(0, 4, 0);
            }
            Bench.due("wipe of " + size, x.wipe(0), size);
            Bench.due("wipe of what was wiped", x.wipe(0), 0);
            Bench.due("a wiped text is not in the way of a run", x.run(1, 1, false), EndingsLab.RETURNED);
            Bench.due("check of what was wiped", x.check(0), WRONG);
            Bench.due("place() of what was wiped", x.place(), 0);
            Bench.due("the other text stays", x.wipe(1), 2);
        }
        EndingsLab x = Bench.lab("CALL 1 END", "RETURN 100 END");
        Bench.returns(x, 0, 5, 105);
        x.wipe(1);
        Bench.returns(x, 0, 5, 5);
    }

    /** "A text is GOOD if it is just one block": not none, not a part of one, nothing behind it. */
    private static void justOneBlock() {
        for (String text : GOOD_TEXTS) {
            good(text);
        }
        wrong(0, "");
        wrong(1, "END END");
        wrong(1, "END NOTE 1");
        wrong(1, "END NOTE 1 END");
        wrong(3, "TIMES 1 END END END");
    }

    /** "BREAK and NEXT stand inside of a block of TIMES (at any depth, but not outside of it)." */
    private static void breakAndNextInsideOfTimes() {
        for (String op : new String[] {"BREAK", "NEXT"}) {
            good("TIMES 0 " + op + " END END");
            good("TIMES 1 ABOVE 0 LOCK 0 TRY 0 TIMES 1 END " + op + " END END END END END");
            good("TIMES 1 TRY 6 " + op + " END CATCH 0 " + op + " END CATCH 0 " + op + " END LAST " + op + " END END END");
            good("TIMES 1 TIMES 1 END " + op + " END END");
            wrong(0, op);
            wrong(1, "ADD 1 " + op + " END");
            wrong(2, "TIMES 1 END " + op + " END");
            wrong(1, "ABOVE 0 " + op + " END END");
            wrong(1, "LOCK 0 " + op + " END END");
            wrong(1, "TRY 0 " + op + " END END");
            wrong(3, "TRY 1 END CATCH 0 " + op + " END END");
            wrong(3, "TRY 4 END LAST " + op + " END END");
            wrong(3, "ABOVE 0 TIMES 1 END " + op + " END END");
            wrong(4, "TRY 0 TIMES 1 END END " + op + " END");
            wrong(5, "TIMES 1 TIMES 1 END END ABOVE 0 " + op + " END END");
        }
    }

    /** "WRAP stands inside of a block of CATCH, likewise." */
    private static void wrapInsideOfCatch() {
        good("TRY 1 END CATCH 0 WRAP 0 END END");
        good("TRY 2 END CATCH 0 END CATCH 0 WRAP 0 END END");
        good("TRY 1 END CATCH 0 ABOVE 0 LOCK 0 TIMES 0 TRY 0 WRAP 0 END END END END END END");
        good("TRY 1 END CATCH 0 TRY 4 WRAP 1 END LAST WRAP 2 END WRAP 3 END END");
        good("TRY 1 END CATCH 0 TRY 1 END CATCH 0 END WRAP 0 END END");
        wrong(0, "WRAP 0");
        wrong(1, "TRY 1 WRAP 0 END CATCH 0 END END");
        wrong(4, "TRY 1 END CATCH 0 END WRAP 0 END");
        wrong(5, "TRY 5 END CATCH 0 END LAST WRAP 0 END END");
        wrong(3, "TRY 4 END LAST WRAP 0 END END");
        wrong(1, "TIMES 1 WRAP 0 END END");
        wrong(1, "LOCK 0 WRAP 0 END END");
        wrong(1, "ABOVE 0 WRAP 0 END END");
        wrong(5, "TRY 1 END CATCH 0 END TRY 1 WRAP 0 END CATCH 0 END END");
        wrong(6, "ABOVE 0 TRY 1 END CATCH 0 END END WRAP 0 END");
    }

    /** "No token is inside of more than 6 blocks (the text's own one counts)." */
    private static void notInsideOfMoreThan6Blocks() {
        for (String opener : new String[] {"TIMES 1", "TRY 0", "LOCK 0", "ABOVE 0"}) {
            String five = (opener + " ").repeat(5);
            for (String item : new String[] {"NOTE 1", "ADD 1", "RETURN 1", "CALL 1", "ENTER 1", "RAISE 1"}) {
                good(five + item + " END END END END END END");
            }
            good(five + "END " + opener + " END END END END END END");
            for (String sixth : OPENERS) {
                wrong(5, five + sixth);
                wrong(5, five + sixth + " END END END END END END END");
                wrong(7, five + "END " + opener + " " + sixth + " END");
            }
        }
        good("TIMES 1 TIMES 1 TIMES 1 TIMES 1 TIMES 1 BREAK END NEXT END BREAK END NEXT END END END");
        for (String opener : OPENERS) {
            wrong(7, "ABOVE 0 ABOVE 0 ABOVE 0 ABOVE 0 TRY 1 END CATCH 0 " + opener);
            wrong(7, "ABOVE 0 ABOVE 0 ABOVE 0 ABOVE 0 TRY 4 END LAST " + opener);
        }
    }

    /** "A CATCH or LAST stands just where TRY says; a TRY with 0 has none." */
    private static void justWhereTrySays() {
        for (String stray : new String[] {"CATCH 0", "CATCH 6", "LAST"}) {
            wrong(0, stray + " END END");
            wrong(1, "NOTE 1 " + stray + " END END");
            wrong(1, "TIMES 1 " + stray + " END END");
            wrong(2, "TIMES 1 END " + stray + " END END");
            wrong(2, "LOCK 1 END " + stray + " END END");
            wrong(2, "ABOVE 1 END " + stray + " END END");
            wrong(1, "TRY 1 " + stray + " END END");
            wrong(2, "TRY 0 END " + stray + " END END");
            wrong(4, "TRY 1 END CATCH 0 END " + stray + " END END");
            wrong(4, "TRY 4 END LAST END " + stray + " END END");
            wrong(6, "TRY 5 END CATCH 0 END LAST END " + stray + " END END");
            wrong(6, "TRY 2 END CATCH 0 END CATCH 0 END " + stray + " END END");
            wrong(3, "TRY 1 END CATCH 0 " + stray + " END END END");
        }
        for (String other : new String[] {"END", "NOTE 1", "LAST", "TRY 1", "TIMES 1", "WRAP 1", "BREAK"}) {
            wrong(2, "TRY 1 END " + other);
            wrong(2, "TRY 2 END " + other);
            wrong(2, "TRY 5 END " + other);
            wrong(4, "TRY 2 END CATCH 0 END " + other);
            wrong(4, "TRY 6 END CATCH 0 END " + other);
        }
        for (String other : new String[] {"END", "NOTE 1", "CATCH 0", "TRY 4", "TIMES 1", "WRAP 1", "NEXT"}) {
            wrong(2, "TRY 4 END " + other);
            wrong(4, "TRY 5 END CATCH 0 END " + other);
            wrong(6, "TRY 6 END CATCH 0 END CATCH 0 END " + other);
        }
        good("TRY 1 TRY 4 END LAST END END CATCH 0 TRY 1 END CATCH 0 END END END");
        wrong(5, "TRY 1 TRY 4 END LAST END CATCH 0 END END");
    }

    /** "the place (from 0) of the first token such that the tokens up to it are not the beginning of any good text". */
    private static void theFirstToken() {
        wrong(0, "BREAK WRAP 1 CATCH 0 LAST");
        wrong(31, "NOTE 1 ".repeat(31) + "BREAK");
        wrong(30, "NOTE 1 ".repeat(30) + "NEXT WRAP 1");
        wrong(31, "NOTE 1 ".repeat(30) + "END END");
        wrong(1, "END " + "NOTE 1 ".repeat(31));
        wrong(5, "ABOVE 0 ".repeat(32));
    }

    /** "(there a text may be of any length)": 32 tokens may be a beginning, though nothing can stand behind them. */
    private static void ofAnyLength() {
        wrong(32, "NOTE 1 ".repeat(32));
        wrong(32, "NOTE 1 ".repeat(31) + "TIMES 1");
        wrong(32, "NOTE 1 ".repeat(31) + "TRY 6");
        wrong(32, "NOTE 1 ".repeat(30) + "TRY 6 END");
        wrong(32, "TIMES 5 ".repeat(5) + "NEXT ".repeat(27));
    }

    /** "the number of tokens if all are one"; one token more than a good text has is the first wrong one. */
    private static void numberOfTokensIfAllAreOne() {
        for (String text : GOOD_TEXTS) {
            for (int p = 0; p < 4; p++) {
                EndingsLab whole = new EndingsLab();
                Bench.write(whole, p, text);
                int size = whole.wipe(p);
                Bench.write(whole, p, text);
                for (int more = 0; more <= 18 && size < 32; more++) {
                    whole.token(p, more, 0);
                    Bench.due("check of " + text + " and op " + more, whole.check(p), WRONG);
                    Bench.due("place() of " + text + " and op " + more, whole.place(), 32 * p + size);
                    Bench.rewrite(whole, p, text);
                }
                beginnings(text, p, size);
            }
        }
    }

    private static void beginnings(String text, int p, int size) {
        EndingsLab x = new EndingsLab();
        String[] tokens = text.split(" (?=[A-Z])");
        for (int length = 0; length < size; length++) {
            Bench.due("check of the first " + length + " of " + text, x.check(p), WRONG);
            Bench.due("place() of the first " + length + " of " + text, x.place(), 32 * p + length);
            Bench.due("run of the first " + length + " of " + text, x.run(p, 0, true), WRONG);
            Bench.due("place() of that run", x.place(), 32 * p + length);
            Bench.write(x, p, tokens[length]);
        }
        Bench.due("check of all of " + text, x.check(p), 0);
    }

    /** "REFUSED after another answer of them ..., and at first": 0 of a check, RETURNED, RAISED and LATE of a run. */
    private static void refusedAfterAnotherAnswer() {
        EndingsLab x = Bench.lab("END", "RAISE 1 END", "TIMES 5 TIMES 5 TIMES 5 NOTE 1 NOTE 2 NOTE 3 END END END END");
        Bench.due("place() at first", x.place(), REFUSED);
        Bench.due("check(0)", x.check(0), 0);
        Bench.due("place() after 0 at first", x.place(), REFUSED);
        x.check(3);
        Bench.due("place() of check(3)", x.place(), 96);
        Bench.due("check(0) again", x.check(0), 0);
        Bench.due("place() after 0", x.place(), REFUSED);
        for (int p = 0; p < 3; p++) {
            x.check(3);
            Bench.due("place() of check(3)", x.place(), 96);
            Bench.due("run(" + p + ")", x.run(p, 0, false), p);
            Bench.due("place() after the answer " + p, x.place(), REFUSED);
        }
        x.run(3, 0, false);
        Bench.due("place() of run(3)", x.place(), 96);
        x.check(0);
        Bench.due("place() after a good check behind a WRONG run", x.place(), REFUSED);
    }

    /** "(but one that was REFUSED does not count)"; and nor does any other method. */
    private static void refusedDoesNotCount() {
        EndingsLab x = Bench.lab("END", "NOTE 1");
        refusedCalls(x);
        Bench.due("place() at first, and after REFUSED", x.place(), REFUSED);
        x.check(1);
        refusedCalls(x);
        Bench.due("place() of check(1), after REFUSED", x.place(), 33);
        x.run(0, 0, false);
        refusedCalls(x);
        Bench.due("place() of a run, after REFUSED", x.place(), 33);
        x.token(1, 19, 0);
        x.token(3, 1, 1);
        x.wipe(3);
        x.value();
        x.fault(0);
        x.steps();
        x.events();
        x.event(0);
        x.most();
        x.place();
        Bench.due("place() after other calls", x.place(), 33);
        x.check(0);
        refusedCalls(x);
        Bench.due("place() after 0 and REFUSED", x.place(), REFUSED);
    }

    private static void refusedCalls(EndingsLab x) {
        for (int p : NO_PROCEDURES) {
            Bench.due("check(" + p + ")", x.check(p), REFUSED);
            Bench.due("run(" + p + ", 0, false)", x.run(p, 0, false), REFUSED);
            Bench.due("run(" + p + ", 0, true)", x.run(p, 0, true), REFUSED);
        }
    }

    private static void good(String text) {
        for (int p = 0; p < 4; p++) {
            EndingsLab x = new EndingsLab();
            Bench.write(x, p, text);
            Bench.due("check of " + text, x.check(p), 0);
            Bench.due("place() of " + text, x.place(), REFUSED);
        }
    }

    private static void wrong(int place, String text) {
        for (int p = 0; p < 4; p++) {
            EndingsLab x = new EndingsLab();
            Bench.write(x, p, text);
            Bench.due("check of " + text, x.check(p), WRONG);
            Bench.due("place() of " + text + " as " + p, x.place(), 32 * p + place);
        }
    }
}
