import java.util.ArrayList;
import java.util.List;

/**
 * The document once more, in another manner: texts are read by descent into trees, and the endings are Java's own,
 * by exceptions and finally. ModelTest compares it with the program.
 */
final class Model {
    private static final int REFUSED = -1;
    private static final int FULL = -2;
    private static final int WRONG = -3;

    private final List<List<int[]>> texts = new ArrayList<>();
    private final List<Integer> events = new ArrayList<>();
    private int place = REFUSED;
    private int value = 0;
    private Fault fault = null;
    private int steps = 0;
    private int most = 0;
    private int[] held = new int[3];
    private boolean late = false;

    Model() {
        for (int p = 0; p < 4; p++) {
            texts.add(new ArrayList<>());
        }
    }

    int token(int p, int op, int a) {
        if (p < 0 || p > 3 || op < 0 || op > 18 || !inRange(op, a)) {
            return REFUSED;
        }
        if (texts.get(p).size() == 32) {
            return FULL;
        }
        texts.get(p).add(new int[] {op, a});
        return texts.get(p).size();
    }

    private static boolean inRange(int op, int a) {
        return switch (op) {
            case 3 -> a >= 0 && a <= 5;
            case 7, 8, 16 -> a >= 0 && a <= 6;
            case 9 -> List.of(0, 1, 2, 4, 5, 6).contains(a);
            case 10, 11, 12, 15 -> a >= 0 && a <= 2;
            case 13 -> a >= 0 && a <= 3;
            default -> true;
        };
    }

    int wipe(int p) {
        if (p < 0 || p > 3) {
            return REFUSED;
        }
        int had = texts.get(p).size();
        texts.get(p).clear();
        return had;
    }

    int check(int p) {
        if (p < 0 || p > 3) {
            return REFUSED;
        }
        int at = new Reader(texts.get(p)).wrongAt();
        place = at < 0 ? REFUSED : 32 * p + at;
        return at < 0 ? 0 : WRONG;
    }

    int place() {
        return place;
    }

    int run(int p, int number) {
        if (p < 0 || p > 3) {
            return REFUSED;
        }
        for (int q = 0; q < 4; q++) {
            if ((q == p || !texts.get(q).isEmpty()) && check(q) != 0) {
                return WRONG;
            }
        }
        fault = null;
        steps = 0;
        most = 0;
        held = new int[3];
        late = false;
        try {
            value = new Activation(p, number, 0).comesTo();
            return 0;
        } catch (Fault f) {
            fault = f;
            return 1;
        } catch (Late l) {
            return 2;
        }
    }

    int value() {
        return value;
    }

    int fault(int k) {
        Fault f = k < 0 ? null : fault;
        for (int i = 0; i < k && f != null; i++) {
            f = f.because;
        }
        return f == null ? REFUSED : f.kind;
    }

    int steps() {
        return steps;
    }

    int events() {
        return events.size();
    }

    int event(int i) {
        return i < 0 || i > 31 || i >= events.size() ? REFUSED : events.get(events.size() - 1 - i);
    }

    int most() {
        return most;
    }

    private void hold(int l) {
        held[l]++;
        most = Math.max(most, held[0] + held[1] + held[2]);
    }

    /** An item with its blocks, of a CATCH or LAST too. */
    private record Item(int op, int a, List<Item> block, List<Item> parts) {
    }

    private static class Signal extends RuntimeException {
        private static final long serialVersionUID = 1;

        Signal() {
            super(null, null, false, false);
        }
    }

    private static final class Break extends Signal {
        private static final long serialVersionUID = 1;
    }

    private static final class Next extends Signal {
        private static final long serialVersionUID = 1;
    }

    private static final class Late extends Signal {
        private static final long serialVersionUID = 1;
    }

    private static final class Return extends Signal {
        private static final long serialVersionUID = 1;
        private final int value;

        Return(int value) {
            this.value = value;
        }
    }

    private static final class Fault extends Signal {
        private static final long serialVersionUID = 1;
        private final int kind;
        private final transient Fault because;

        Fault(int kind, Fault because) {
            this.kind = kind;
            this.because = because;
        }

        boolean is(int wanted) {
            for (int k = kind; k != 0; k = new int[] {0, 0, 0, 1, 0, 0, 2}[k]) {
                if (k == wanted) {
                    return true;
                }
            }
            return wanted == 0;
        }
    }

    /** Thrown where a text stops being the beginning of a good one, or ends before its time. */
    private static final class Unread extends Signal {
        private static final long serialVersionUID = 1;
        private final int at;

        Unread(int at) {
            this.at = at;
        }
    }

    private static final class Reader {
        private final List<int[]> tokens;
        private int at = 0;

        Reader(List<int[]> tokens) {
            this.tokens = tokens;
        }

        int wrongAt() {
            try {
                wholeText();
                return -1;
            } catch (Unread u) {
                return u.at;
            }
        }

        List<Item> wholeText() {
            List<Item> block = block(1, false, false);
            if (at < tokens.size()) {
                throw new Unread(at);
            }
            return block;
        }

        private int op() {
            if (at >= tokens.size()) {
                throw new Unread(at);
            }
            return tokens.get(at)[0];
        }

        /** The items and the END of a block; its opener stands just before. */
        private List<Item> block(int depth, boolean times, boolean caught) {
            if (depth > 6) {
                throw new Unread(at - 1);
            }
            List<Item> items = new ArrayList<>();
            while (op() != 18) {
                items.add(item(depth, times, caught));
            }
            at++;
            return items;
        }

        private Item item(int depth, boolean times, boolean caught) {
            int op = op();
            int a = tokens.get(at)[1];
            boolean stray = (op == 4 || op == 5) && !times || op == 8 && !caught || op > 15;
            if (stray) {
                throw new Unread(at);
            }
            at++;
            if (op != 3 && op != 9 && op != 10 && op != 14) {
                return new Item(op, a, null, null);
            }
            List<Item> block = block(depth + 1, times || op == 3, caught);
            List<Item> parts = new ArrayList<>();
            if (op == 9) {
                for (int i = 0; i < a % 4; i++) {
                    parts.add(part(16, depth, times, true));
                }
                if (a >= 4) {
                    parts.add(part(17, depth, times, caught));
                }
            }
            return new Item(op, a, block, parts);
        }

        private Item part(int wanted, int depth, boolean times, boolean caught) {
            if (op() != wanted) {
                throw new Unread(at);
            }
            int a = tokens.get(at)[1];
            at++;
            return new Item(wanted, a, block(depth + 1, times, caught), null);
        }
    }

    private final class Activation {
        private final int procedure;
        private final int calls;
        private final int[] entered = new int[3];
        private int account;

        Activation(int procedure, int number, int calls) {
            this.procedure = procedure;
            this.account = number;
            this.calls = calls;
        }

        int comesTo() {
            if (texts.get(procedure).isEmpty()) {
                return account;
            }
            Fault ended = null;
            int result = 0;
            try {
                doAll(new Reader(texts.get(procedure)).wholeText(), null);
                result = account;
            } catch (Return r) {
                result = r.value;
            } catch (Fault f) {
                ended = f;
            }
            if (entered[0] + entered[1] + entered[2] > 0) {
                for (int l = 0; l < 3; l++) {
                    held[l] -= entered[l];
                }
                ended = new Fault(4, ended);
            }
            if (ended != null) {
                throw ended;
            }
            return result;
        }

        private void doAll(List<Item> items, Fault caught) {
            for (Item item : items) {
                if (steps == 300) {
                    late = true;
                    throw new Late();
                }
                steps++;
                doOne(item, item.a, caught);
            }
        }

        private void doOne(Item item, int a, Fault caught) {
            switch (item.op) {
                case 0 -> events.add(a);
                case 1 -> account += a;
                case 2 -> {
                    if (a == 0) {
                        throw new Fault(6, null);
                    }
                    account = (int) ((long) account / a);
                }
                case 3 -> repeat(item, caught);
                case 4 -> throw new Break();
                case 5 -> throw new Next();
                case 6 -> throw new Return(account + a);
                case 7 -> throw new Fault(a, null);
                case 8 -> throw new Fault(a, caught);
                case 9 -> attempt(item, caught);
                case 10 -> {
                    hold(a);
                    try {
                        doAll(item.block, caught);
                    } finally {
                        held[a]--;
                    }
                }
                case 11 -> {
                    entered[a]++;
                    hold(a);
                }
                case 12 -> {
                    if (entered[a] == 0) {
                        throw new Fault(4, null);
                    }
                    entered[a]--;
                    held[a]--;
                }
                case 13 -> {
                    if (calls == 5) {
                        throw new Fault(5, null);
                    }
                    account = new Activation(a, account, calls + 1).comesTo();
                }
                case 14 -> {
                    if (account > a) {
                        doAll(item.block, caught);
                    }
                }
                case 15 -> account = held[a] > 0 ? 1 : 0;
                default -> throw new IllegalStateException("no item");
            }
        }

        private void repeat(Item item, Fault caught) {
            for (int i = 0; i < item.a; i++) {
                try {
                    doAll(item.block, caught);
                } catch (Next n) {
                    continue;
                } catch (Break b) {
                    break;
                }
            }
        }

        @SuppressWarnings("finally")
        private void attempt(Item item, Fault caught) {
            try {
                try {
                    doAll(item.block, caught);
                } catch (Fault f) {
                    handle(item, f);
                }
            } finally {
                if (item.a >= 4 && !late) {
                    doAll(item.parts.get(item.parts.size() - 1).block, caught);
                }
            }
        }

        private void handle(Item item, Fault f) {
            for (Item part : item.parts) {
                if (part.op == 16 && f.is(part.a)) {
                    doAll(part.block, f);
                    return;
                }
            }
            throw f;
        }
    }
}
