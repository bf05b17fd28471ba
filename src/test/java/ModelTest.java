import java.util.ArrayList;
import java.util.List;
import java.util.Random;

/** All promises: the program and the Model answer the same to long runs of calls, drawn with fixed seeds. */
public final class ModelTest {
    private static final int OBJECTS = 6000;
    private static final int ROUNDS = 12;
    private static final int[] EDGES = {Integer.MIN_VALUE, Integer.MIN_VALUE + 1, Integer.MAX_VALUE - 1, Integer.MAX_VALUE};

    private static final int[] seen = new int[3];
    private static int wrongTexts = 0;
    private static int longestChain = 0;
    private static int greatestMost = 0;

    private final Random random;
    private final EndingsLab lab = new EndingsLab();
    private final Model model = new Model();
    // Few draws come to many steps by themselves.
    private boolean manyTimes = false;

    private ModelTest(int seed) {
        random = new Random(seed);
    }

    public static void main(String[] args) {
        for (int seed = 0; seed < OBJECTS; seed++) {
            ModelTest one = new ModelTest(seed);
            for (int round = 0; round < ROUNDS; round++) {
                one.round("seed " + seed + " round " + round + ": ");
            }
        }
        System.out.println("seen: " + seen[0] + " RETURNED, " + seen[1] + " RAISED, " + seen[2] + " LATE, " + wrongTexts
            + " WRONG; longest chain of causes " + longestChain + ", most locks " + greatestMost);
        Bench.due("the draws reach every answer of run", Math.min(seen[0], Math.min(seen[1], seen[2])) > 1000);
        Bench.due("the draws reach wrong texts", wrongTexts > 1000);
        Bench.due("the draws reach chains of causes", longestChain >= 5);
        Bench.due("the draws reach many locks", greatestMost >= 8);
        Bench.finish("ModelTest");
    }

    private void round(String where) {
        int p = random.nextInt(4);
        rewrite(where, p);
        if (random.nextInt(4) == 0) {
            int asked = random.nextInt(6) - 1;
            Bench.due(where + "check(" + asked + ")", lab.check(asked), model.check(asked));
            Bench.due(where + "place() of check", lab.place(), model.place());
        }
        if (random.nextInt(10) == 0) {
            rewriteUntilGood(where);
        }
        int asked = random.nextInt(12) == 0 ? random.nextInt(6) - 1 : p;
        int number = random.nextInt(8) == 0 ? EDGES[random.nextInt(EDGES.length)] : random.nextInt(12) - 3;
        int answer = lab.run(asked, number, random.nextBoolean());
        Bench.due(where + "run(" + asked + ", " + number + ")", answer, model.run(asked, number));
        if (answer >= 0) {
            seen[answer]++;
        }
        wrongTexts += answer == EndingsLab.WRONG ? 1 : 0;
        observe(where);
    }

    private void observe(String where) {
        Bench.due(where + "place()", lab.place(), model.place());
        Bench.due(where + "value()", lab.value(), model.value());
        Bench.due(where + "steps()", lab.steps(), model.steps());
        Bench.due(where + "most()", lab.most(), model.most());
        Bench.due(where + "events()", lab.events(), model.events());
        greatestMost = Math.max(greatestMost, lab.most());
        int k = 0;
        while (model.fault(k) >= 0) {
            Bench.due(where + "fault(" + k + ")", lab.fault(k), model.fault(k));
            k++;
        }
        Bench.due(where + "fault(" + k + ")", lab.fault(k), EndingsLab.REFUSED);
        longestChain = Math.max(longestChain, k);
        int i = random.nextInt(36) - 2;
        Bench.due(where + "event(" + i + ")", lab.event(i), model.event(i));
        Bench.due(where + "event(0)", lab.event(0), model.event(0));
    }

    private void rewriteUntilGood(String where) {
        for (int p = 0; p < 4; p++) {
            for (int tries = 0; tries < 3 && isWrong(where, p); tries++) {
                rewrite(where, p);
            }
        }
    }

    private boolean isWrong(String where, int p) {
        int answer = lab.check(p);
        Bench.due(where + "check(" + p + ")", answer, model.check(p));
        return answer == EndingsLab.WRONG;
    }

    private void rewrite(String where, int p) {
        Bench.due(where + "wipe(" + p + ")", lab.wipe(p), model.wipe(p));
        List<int[]> text = new ArrayList<>();
        int wanted = 3 + random.nextInt(28);
        manyTimes = random.nextInt(3) == 0;
        drawBlock(text, 1, wanted, false, false);
        for (int[] token : text) {
            boolean spoilt = random.nextInt(400) == 0;
            int op = spoilt ? random.nextInt(21) - 1 : token[0];
            int a = spoilt && random.nextBoolean() ? random.nextInt(10) - 1 : token[1];
            Bench.due(where + "token(" + p + ", " + op + ", " + a + ")", lab.token(p, op, a), model.token(p, op, a));
        }
    }

    private void drawBlock(List<int[]> text, int depth, int wanted, boolean times, boolean caught) {
        int items = 1 + random.nextInt(depth == 1 ? 7 : 4);
        for (int i = 0; i < items && text.size() + depth < wanted; i++) {
            drawItem(text, depth, wanted, times, caught);
        }
        text.add(new int[] {18, random.nextInt(3)});
    }

    private void drawItem(List<int[]> text, int depth, int wanted, boolean times, boolean caught) {
        int[] weighted = {0, 1, 1, 2, 3, 3, 3, 4, 5, 6, 7, 8, 8, 8, 9, 9, 9, 9, 10, 10, 11, 11, 12, 12, 13, 13, 14, 14, 15};
        int op = manyTimes && random.nextInt(3) == 0 ? 3 : weighted[random.nextInt(weighted.length)];
        boolean opens = op == 3 || op == 9 || op == 10 || op == 14;
        boolean stray = (op == 4 || op == 5) && !times || op == 8 && !caught || opens && depth == 6;
        if (stray && random.nextInt(60) != 0) {
            text.add(new int[] {0, random.nextInt(9) - 1});
            return;
        }
        int a = drawNumber(op);
        text.add(new int[] {op, a});
        if (opens) {
            drawBlock(text, depth + 1, wanted, times || op == 3, caught);
        }
        if (op == 9) {
            for (int i = 0; i < a % 4; i++) {
                text.add(new int[] {16, random.nextInt(3) == 0 ? random.nextInt(7) : 0});
                drawBlock(text, depth + 1, wanted, times, true);
            }
            if (a >= 4) {
                text.add(new int[] {17, random.nextInt(3)});
                drawBlock(text, depth + 1, wanted, times, caught);
            }
        }
    }

    private int drawNumber(int op) {
        switch (op) {
            case 2:
                return random.nextInt(20) == 0 ? EDGES[random.nextInt(EDGES.length)] : random.nextInt(5) - 2;
            case 3:
                return manyTimes ? 5 : random.nextInt(6);
            case 7:
            case 8:
                return random.nextInt(7);
            case 9:
                return new int[] {0, 1, 2, 4, 5, 6}[random.nextInt(6)];
            case 10:
            case 11:
            case 12:
            case 15:
                return random.nextInt(3);
            case 13:
                return random.nextInt(4);
            default:
                return random.nextInt(40) == 0 ? EDGES[random.nextInt(EDGES.length)] : random.nextInt(9) - 3;
        }
    }
}
