import java.util.ArrayList;
import java.util.Arrays;
import java.util.List;

/** A test of its own for each sentence of the document that names a boundary case. */
public final class EdgesTest {
    private static final int REFUSED = -1;
    private static final int FULL = -2;
    private static final int NONE = -3;
    private static final int HERE = -4;
    private static final int MOVING = 0;
    private static final int ENDED = 1;
    private static final int UNREACHABLE = 2;
    private static final int EXPIRED = 3;
    private static final int TOO_WIDE = 4;
    private static final int DROPPED = 5;
    private static final int MOST_CALLS = 512;
    private static final List<List<Call>> PROBES = probes();

    private static String sentence;
    private static int tests;
    private static int wrong;

    private static void complain(String what) {
        wrong++;
        System.out.println(sentence + ": " + what);
    }

    private record Call(String name, int... numbers) {
        int on(RouterNet x) {
            int[] n = numbers;
            return switch (name) {
                case "lay" -> x.lay(n[0], n[1], n[2], n[3]);
                case "cut" -> x.cut(n[0]);
                case "mend" -> x.mend(n[0]);
                case "share" -> x.share(n[0]);
                case "announce" -> x.announce(n[0], n[1], n[2]);
                case "withdraw" -> x.withdraw(n[0], n[1]);
                case "take" -> x.take(n[0], n[1]);
                case "lose" -> x.lose(n[0], n[1]);
                case "send" -> x.send(n[0], n[1], n[2], false);
                case "sendWhole" -> x.send(n[0], n[1], n[2], true);
                case "go" -> x.go(n[0]);
                case "drop" -> x.drop(n[0]);
                case "copy" -> x.copy(n[0]);
                case "route" -> x.route(n[0], n[1]);
                case "distance" -> x.distance(n[0], n[1]);
                case "held" -> x.held(n[0], n[1]);
                case "waiting" -> x.waiting(n[0], n[1]);
                case "piece" -> x.piece(n[0], n[1]);
                case "ended" -> x.ended(n[0], n[1]);
                case "arrived" -> x.arrived(n[0], n[1], n[2]) ? 1 : 0;
                default -> throw new IllegalArgumentException(name);
            };
        }

        @Override
        public String toString() {
            String row = Arrays.toString(numbers);
            return name + "(" + row.substring(1, row.length() - 1) + ")";
        }
    }

    /** Calls on one object, kept so that they can be made again on a new one. */
    private static final class Run {
        private final int life;
        private final RouterNet net;
        private final List<Call> calls = new ArrayList<>();
        private List<Integer> state;
        private int stateAt = -1;

        Run(int life) {
            this.life = life;
            net = new RouterNet(life);
        }

        Run again() {
            Run other = new Run(life);
            for (Call call : calls) {
                other.make(call);
            }
            return other;
        }

        int make(Call call) {
            calls.add(call);
            if (calls.size() == MOST_CALLS + 1) {
                complain("the test itself is wrong: more calls on an object than the document speaks of");
            }
            return call.on(net);
        }

        int ask(String name, int... numbers) {
            return make(new Call(name, numbers));
        }

        void askTimes(int times, String name, int... numbers) {
            for (int i = 0; i < times; i++) {
                ask(name, numbers);
            }
        }

        /** The answer that is due; if that is REFUSED or FULL, then also that nothing has changed. */
        void due(int want, String name, int... numbers) {
            Call call = new Call(name, numbers);
            boolean denied = want == REFUSED || want == FULL;
            List<Integer> before = denied ? state() : null;
            int got = make(call);
            if (got != want) {
                complain(call + " answered " + got + ", due is " + want);
            } else if (denied && !before.equals(state())) {
                complain(call + " answered " + got + " and yet changed something");
            }
        }

        void dueTimes(int times, int want, String name, int... numbers) {
            for (int i = 0; i < times; i++) {
                due(want, name, numbers);
            }
        }

        /** All that can be seen of the object, and what it would do next: told by new objects, so this one stays. */
        private List<Integer> state() {
            if (stateAt != calls.size()) {
                state = new ArrayList<>();
                for (List<Call> probe : PROBES) {
                    Run other = again();
                    for (Call call : probe) {
                        state.add(other.make(call));
                    }
                }
                stateAt = calls.size();
            }
            return state;
        }

        /** The least and the most for one of the call's numbers are taken; what lies beyond them is REFUSED. */
        void range(int which, int least, int most, int dueForLeast, int dueForMost, String name, int... numbers) {
            again().due(dueForLeast, name, with(numbers, which, least));
            again().due(dueForMost, name, with(numbers, which, most));
            beyond(REFUSED, which, least, most, name, numbers);
        }

        void beyond(int want, int which, int least, int most, String name, int... numbers) {
            for (int number : new int[] {least - 1, most + 1, Integer.MIN_VALUE, Integer.MAX_VALUE}) {
                due(want, name, with(numbers, which, number));
            }
        }

        void takeAll(int links) {
            boolean some = true;
            while (some) {
                some = false;
                for (int i = 0; i < 2 * links; i++) {
                    while (calls.size() < MOST_CALLS && ask("take", i / 2, i % 2) != REFUSED) {
                        some = true;
                    }
                }
            }
        }

        void dueRow(int link, int direction, int... origins) {
            due(origins.length, "waiting", link, direction);
            for (int origin : origins) {
                due(origin, "lose", link, direction);
            }
        }

        void duePiece(int piece, int... parts) {
            for (int what = 0; what < parts.length; what++) {
                due(parts[what], "piece", piece, what);
            }
        }
    }

    private static int[] with(int[] numbers, int which, int number) {
        int[] changed = numbers.clone();
        changed[which] = number;
        return changed;
    }

    /** Rows of calls; each row is made on an object of its own, and together they tell all of an object's state. */
    private static List<List<Call>> probes() {
        List<List<Call>> rows = new ArrayList<>();
        rows.add(routingProbe());
        rows.add(pieceProbe(1, 45));
        rows.add(pieceProbe(46, 81));
        rows.add(endedProbe());
        for (int packet = 1; packet <= 12; packet += 4) {
            rows.add(arrivedProbe(packet, packet + 3));
        }
        rows.add(loseProbe(0, 5));
        rows.add(loseProbe(6, 11));
        rows.add(takeProbe());
        rows.add(withdrawProbe());
        rows.add(nextProbe());
        rows.add(goProbe());
        return rows;
    }

    private static List<Call> routingProbe() {
        List<Call> row = new ArrayList<>();
        for (int i = 0; i < 24; i++) {
            row.add(new Call("waiting", i / 2, i % 2));
        }
        for (int i = 0; i < 64; i++) {
            row.add(new Call("held", i / 8, i % 8));
            row.add(new Call("distance", i / 8, i % 8));
        }
        for (int i = 0; i < 80; i++) {
            row.add(new Call("route", i / 10, i % 10 * 255 / 9));
        }
        return row;
    }

    private static List<Call> pieceProbe(int first, int last) {
        List<Call> row = new ArrayList<>();
        for (int i = first * 6; i < (last + 1) * 6; i++) {
            row.add(new Call("piece", i / 6, i % 6));
        }
        return row;
    }

    private static List<Call> endedProbe() {
        List<Call> row = new ArrayList<>();
        for (int i = 8; i < 14 * 8; i++) {
            row.add(new Call("ended", i / 8, i % 8));
        }
        return row;
    }

    private static List<Call> arrivedProbe(int first, int last) {
        List<Call> row = new ArrayList<>();
        for (int i = first * 8; i < (last + 1) * 8; i++) {
            for (int at : new int[] {0, 7, 8, 63, 64, 255, 498, 499}) {
                row.add(new Call("arrived", i / 8, i % 8, at));
            }
        }
        return row;
    }

    private static List<Call> loseProbe(int first, int last) {
        List<Call> row = new ArrayList<>();
        for (int i = first * 2; i < (last + 1) * 2; i++) {
            for (int k = 0; k < 21; k++) {
                row.add(new Call("lose", i / 2, i % 2));
            }
        }
        return row;
    }

    private static List<Call> takeProbe() {
        List<Call> row = new ArrayList<>();
        for (int i = 0; i < 192; i++) {
            row.add(new Call("take", i % 24 / 2, i % 2));
        }
        for (int i = 0; i < 64; i++) {
            row.add(new Call("held", i / 8, i % 8));
        }
        return row;
    }

    private static List<Call> withdrawProbe() {
        List<Call> row = new ArrayList<>();
        for (int i = 0; i < 24; i++) {
            row.add(new Call("withdraw", i / 3, 0));
            row.add(new Call("held", i / 3, i / 3));
            for (int address : new int[] {0, 1, 2, 3, 9, 64, 128, 192, 255}) {
                row.add(new Call("route", i / 3, address));
            }
        }
        return row;
    }

    private static List<Call> nextProbe() {
        List<Call> row = new ArrayList<>();
        for (int i = 0; i < 8; i++) {
            row.add(new Call("announce", i, 200 + i, 8));
            row.add(new Call("held", i, i));
        }
        for (int i = 0; i < 12; i++) {
            row.add(new Call("cut", i));
            row.add(new Call("waiting", i, 0));
            row.add(new Call("mend", i));
        }
        row.add(new Call("lay", 6, 7, 1, 8));
        row.add(new Call("send", 0, 0, 1));
        for (int i = 1; i <= 80; i++) {
            row.add(new Call("copy", i));
        }
        return row;
    }

    private static List<Call> goProbe() {
        List<Call> row = new ArrayList<>();
        for (int i = 1; i <= 80; i++) {
            row.add(new Call("go", i));
            row.add(new Call("piece", i, 4));
        }
        return row;
    }

    /** Routers 0 and 1 over link 0; 1 has all addresses, both hold both adverts, and nothing waits. */
    private static Run pair(int life, int width) {
        Run r = new Run(life);
        r.ask("lay", 0, 1, 1, width);
        r.ask("announce", 1, 0, 0);
        r.takeAll(1);
        return r;
    }

    /** Twelve links in a ring of the eight routers and half of a second one. */
    private static Run twelve() {
        Run r = new Run(5);
        for (int i = 0; i < 12; i++) {
            r.ask("lay", i % 8, (i + 1) % 8, 1, 8);
        }
        return r;
    }

    /** A pair with 80 pieces of 9 bytes: the first one stays whole, the others are the second one and its copies. */
    private static Run eighty() {
        Run r = pair(3, 8);
        r.ask("sendWhole", 0, 0, 9);
        r.ask("send", 0, 0, 9);
        r.askTimes(78, "copy", 2);
        return r;
    }

    // ---- Terms ----

    private static void eightRouters() {
        Run r = new Run(5);
        for (int i = 0; i < 8; i++) {
            r.due(1, "announce", i, 10 * i, 8);
            r.due(HERE, "route", i, 10 * i);
            r.due(0, "distance", i, i);
        }
        r.due(REFUSED, "announce", -1, 0, 8);
        r.due(REFUSED, "announce", 8, 0, 8);
    }

    private static void linkNumbers() {
        Run r = new Run(5);
        for (int i = 0; i < 12; i++) {
            r.due(REFUSED, "share", i);
            r.due(i, "lay", i % 7, i % 7 + 1, 1, 8);
            r.due(0, "share", i);
        }
        r.due(REFUSED, "share", 12);
    }

    private static void noMoreThanTwelveLinks() {
        Run r = twelve();
        r.due(FULL, "lay", 0, 1, 1, 8);
        r.due(FULL, "lay", 7, 3, 50, 255);
        r.ask("cut", 4);
        r.due(FULL, "lay", 4, 5, 1, 8);
    }

    private static void differentRouters() {
        Run r = new Run(5);
        for (int i = 0; i < 8; i++) {
            r.due(REFUSED, "lay", i, i, 1, 8);
        }
        r.due(0, "lay", 0, 7, 1, 8);
        r.due(1, "lay", 7, 0, 1, 8);
    }

    private static void upAtFirst() {
        Run r = new Run(5);
        r.ask("lay", 0, 1, 1, 8);
        r.due(REFUSED, "mend", 0);
        r.due(0, "share", 0);
        r.due(0, "cut", 0);
        r.due(REFUSED, "share", 0);
    }

    private static void severalLinks() {
        Run r = new Run(5);
        r.due(0, "lay", 0, 1, 5, 8);
        r.due(1, "lay", 0, 1, 3, 8);
        r.due(2, "lay", 1, 0, 4, 8);
        r.takeAll(3);
        int[][] rounds = {{3, 1}, {4, 2}, {5, 0}};
        for (int[] round : rounds) {
            r.due(round[0], "distance", 0, 1);
            r.due(0, "cut", round[1]);
        }
        r.due(NONE, "distance", 0, 1);
    }

    private static void addresses() {
        Run r = new Run(5);
        r.ask("announce", 2, 0, 0);
        r.range(1, 0, 255, HERE, HERE, "route", 2, 9);
        r.range(1, 0, 255, 1, 1, "send", 2, 9, 1);
    }

    private static void prefixHolds() {
        for (int length = 0; length <= 8; length++) {
            for (int bits : new int[] {0, 0x5A, 0xA5, 255}) {
                int size = 256 >> length;
                int first = bits / size * size;
                Run r = new Run(5);
                r.due(1, "announce", 4, bits, length);
                r.due(HERE, "route", 4, first);
                r.due(HERE, "route", 4, first + size - 1);
                r.due(first == 0 ? REFUSED : NONE, "route", 4, first - 1);
                r.due(first + size == 256 ? REFUSED : NONE, "route", 4, first + size);
            }
        }
    }

    private static void prefixOfLengthZeroAndEight() {
        Run r = new Run(5);
        r.ask("announce", 0, 170, 0);
        r.ask("announce", 1, 170, 8);
        for (int address = 0; address < 200; address++) {
            r.due(HERE, "route", 0, address);
            r.due(address == 170 ? HERE : NONE, "route", 1, address);
        }
    }

    private static void otherBitsAreZero() {
        Run r = new Run(5);
        r.due(1, "announce", 1, 255, 0);
        for (int bits : new int[] {0, 127, 128, 255}) {
            r.due(REFUSED, "announce", 1, bits, 0);
        }
        r.due(1, "announce", 2, 0x5F, 3);
        r.due(REFUSED, "announce", 2, 0x40, 3);
        r.due(2, "announce", 2, 0x60, 3);
        r.due(REFUSED, "announce", 2, 0x7F, 3);
        r.due(3, "announce", 2, 0x3F, 3);
        r.due(1, "announce", 3, 254, 7);
        r.due(REFUSED, "announce", 3, 255, 7);
        r.due(2, "announce", 3, 254, 8);
        r.due(3, "announce", 3, 255, 8);
    }

    private static void threeOwn() {
        Run r = new Run(5);
        for (int i = 0; i < 3; i++) {
            r.due(i + 1, "announce", 6, i, 8);
        }
        r.due(FULL, "announce", 6, 3, 8);
        r.due(2, "withdraw", 6, 1);
        r.due(3, "announce", 6, 3, 8);
        r.due(FULL, "announce", 6, 1, 8);
        r.due(1, "announce", 5, 1, 8);
    }

    private static void ownInOrder() {
        for (int k = 0; k < 3; k++) {
            Run r = new Run(5);
            for (int i = 0; i < 3; i++) {
                r.ask("announce", 6, 30 - 10 * i, 8);
            }
            r.due(2, "withdraw", 6, k);
            for (int i = 0; i < 3; i++) {
                r.due(i == k ? NONE : HERE, "route", 6, 30 - 10 * i);
            }
            r.due(1, "withdraw", 6, 0);
            r.due(k == 2 ? HERE : NONE, "route", 6, 20);
            r.due(k == 2 ? NONE : HERE, "route", 6, 10);
        }
    }

    private static void numbersBeginAtOne() {
        Run r = new Run(5);
        r.due(0, "held", 3, 3);
        r.ask("announce", 3, 1, 8);
        r.due(1, "held", 3, 3);
        r.due(REFUSED, "announce", 3, 1, 8);
        r.due(REFUSED, "withdraw", 3, 1);
        r.ask("withdraw", 3, 0);
        r.due(2, "held", 3, 3);
        r.ask("lay", 3, 4, 1, 8);
        r.due(3, "held", 3, 3);
        r.due(1, "held", 4, 4);
    }

    private static void tellsWithoutLinksAndPrefixes() {
        Run r = new Run(5);
        r.ask("announce", 0, 9, 8);
        r.ask("lay", 0, 1, 1, 8);
        r.takeAll(1);
        r.due(0, "route", 1, 9);
        r.ask("withdraw", 0, 0);
        r.ask("take", 0, 0);
        r.due(NONE, "route", 1, 9);
        r.due(1, "distance", 1, 0);
        r.due(0, "cut", 0);
        r.due(NONE, "distance", 1, 0);
        r.due(NONE, "distance", 0, 1);
        r.due(4, "held", 0, 0);
        r.ask("announce", 0, 9, 8);
        r.due(0, "waiting", 0, 0);
        r.due(5, "held", 0, 0);
        r.due(HERE, "route", 0, 9);
    }

    private static void noneHeldAtFirst() {
        Run r = new Run(5);
        for (int i = 0; i < 64; i++) {
            r.due(0, "held", i / 8, i % 8);
        }
        r.ask("announce", 2, 0, 0);
        for (int i = 0; i < 64; i++) {
            r.due(i == 2 * 8 + 2 ? 1 : 0, "held", i / 8, i % 8);
        }
    }

    private static void emptyRow() {
        Run r = new Run(5);
        r.ask("lay", 0, 1, 1, 8);
        for (int direction = 0; direction < 2; direction++) {
            r.due(direction, "take", 0, direction);
            r.due(direction, "lose", 0, direction);
            r.due(0, "waiting", 0, direction);
            r.due(REFUSED, "take", 0, direction);
            r.due(REFUSED, "lose", 0, direction);
        }
    }

    private static void twentyWait() {
        Run r = new Run(5);
        r.ask("lay", 0, 1, 1, 8);
        r.askTimes(17, "share", 0);
        r.due(19, "waiting", 0, 0);
        r.due(1, "announce", 0, 1, 8);
        r.due(20, "waiting", 0, 0);
        r.due(2, "announce", 0, 2, 8);
        r.due(20, "waiting", 0, 0);
        r.due(19, "waiting", 0, 1);
        r.due(3, "held", 0, 0);
        r.dueTimes(19, 0, "take", 0, 0);
        r.due(1, "held", 1, 0);
        r.due(0, "take", 0, 0);
        r.due(2, "held", 1, 0);
        r.due(REFUSED, "take", 0, 0);
    }

    private static void lostOnThatLinkAlone() {
        Run r = new Run(5);
        r.ask("lay", 0, 1, 1, 8);
        r.askTimes(20, "share", 0);
        r.ask("lay", 0, 2, 1, 8);
        r.due(2, "waiting", 1, 0);
        r.due(20, "waiting", 0, 0);
        r.due(1, "announce", 0, 1, 8);
        r.due(20, "waiting", 0, 0);
        r.due(3, "waiting", 1, 0);
        r.ask("lose", 0, 1);
        r.due(1, "announce", 1, 1, 8);
        r.due(20, "waiting", 0, 1);
    }

    private static void shareIntoTheLastPlace() {
        Run r = new Run(5);
        r.ask("lay", 0, 1, 1, 8);
        r.ask("take", 0, 1);
        r.askTimes(8, "share", 0);
        r.due(18, "waiting", 0, 0);
        Run even = r.again();
        even.due(0, "share", 0);
        even.dueRow(0, 0, 0, 0, 0, 1, 0, 1, 0, 1, 0, 1, 0, 1, 0, 1, 0, 1, 0, 1, 0, 1);
        r.ask("announce", 0, 1, 8);
        r.due(19, "waiting", 0, 0);
        r.due(9, "waiting", 0, 1);
        r.due(0, "share", 0);
        r.due(0, "share", 0);
        r.due(11, "waiting", 0, 1);
        r.dueRow(0, 0, 0, 0, 0, 1, 0, 1, 0, 1, 0, 1, 0, 1, 0, 1, 0, 1, 0, 1, 0, 0);
    }

    private static void takenIsLostOnAFullLink() {
        Run r = new Run(5);
        r.ask("lay", 0, 1, 1, 8);
        r.ask("lay", 1, 2, 1, 8);
        r.askTimes(17, "share", 1);
        r.due(19, "waiting", 1, 0);
        Run full = r.again();
        full.ask("share", 1);
        full.due(0, "take", 0, 0);
        full.due(1, "held", 1, 0);
        full.due(20, "waiting", 1, 0);
        full.dueTimes(20, 1, "lose", 1, 0);
        r.due(0, "take", 0, 0);
        r.due(20, "waiting", 1, 0);
        r.dueTimes(19, 1, "lose", 1, 0);
        r.due(0, "lose", 1, 0);
    }

    private static void answerIsLostOnAFullLink() {
        Run r = new Run(5);
        r.ask("lay", 0, 1, 1, 8);
        r.ask("lay", 0, 1, 1, 8);
        r.due(0, "take", 1, 0);
        r.due(2, "held", 1, 0);
        r.askTimes(8, "share", 0);
        r.due(20, "waiting", 0, 1);
        r.due(0, "take", 0, 0);
        r.due(20, "waiting", 0, 1);
        r.due(1, "lose", 0, 1);
        r.due(0, "take", 0, 0);
        r.due(20, "waiting", 0, 1);
    }

    private static void rowWrapsAround() {
        Run r = new Run(5);
        r.ask("lay", 0, 1, 1, 8);
        for (int i = 0; i < 9; i++) {
            r.ask("announce", 0, 1, 8);
            r.ask("withdraw", 0, 0);
        }
        r.due(20, "waiting", 0, 0);
        r.dueTimes(7, 0, "take", 0, 0);
        r.due(6, "held", 1, 0);
        for (int i = 0; i < 4; i++) {
            r.ask("announce", 0, 1, 8);
            r.ask("withdraw", 0, 0);
        }
        r.due(27, "held", 0, 0);
        r.due(20, "waiting", 0, 0);
        for (int number = 7; number <= 26; number++) {
            r.due(0, "take", 0, 0);
            r.due(number, "held", 1, 0);
        }
        r.due(REFUSED, "take", 0, 0);
    }

    /** Two links join 0 and 1, so that adverts can come out of their order; 1 has one more, to 2. */
    private static Run twoWays() {
        Run r = new Run(5);
        r.ask("lay", 0, 1, 1, 8);
        r.ask("lay", 0, 1, 1, 8);
        r.ask("lay", 1, 2, 1, 8);
        r.askTimes(3, "lose", 0, 0);
        r.askTimes(2, "lose", 1, 0);
        r.due(0, "waiting", 0, 0);
        r.due(0, "waiting", 1, 0);
        r.ask("announce", 0, 1, 8);
        return r;
    }

    private static void takesALessNumber() {
        Run r = twoWays();
        r.due(0, "take", 0, 0);
        r.ask("announce", 0, 2, 8);
        int[] before = {r.ask("waiting", 0, 1), r.ask("waiting", 1, 1), r.ask("waiting", 2, 0)};
        r.due(0, "take", 0, 0);
        r.due(4, "held", 1, 0);
        r.due(before[0], "waiting", 0, 1);
        r.due(before[1] + 1, "waiting", 1, 1);
        r.due(before[2] + 1, "waiting", 2, 0);
    }

    private static void takesTheSameNumber() {
        Run r = twoWays();
        r.due(0, "take", 0, 0);
        int[] before = {r.ask("waiting", 0, 1), r.ask("waiting", 1, 1), r.ask("waiting", 2, 0)};
        r.due(0, "take", 1, 0);
        r.due(3, "held", 1, 0);
        for (int i = 0; i < 3; i++) {
            r.due(before[i], "waiting", i, i == 2 ? 0 : 1);
        }
    }

    private static void takesAGreaterNumber() {
        Run r = twoWays();
        r.ask("announce", 0, 2, 8);
        r.due(0, "lose", 1, 0);
        r.due(0, "take", 1, 0);
        r.due(4, "held", 1, 0);
        int[] before = {r.ask("waiting", 0, 1), r.ask("waiting", 1, 1), r.ask("waiting", 2, 0)};
        r.due(0, "take", 0, 0);
        r.due(4, "held", 1, 0);
        r.due(before[0] + 1, "waiting", 0, 1);
        r.due(before[1], "waiting", 1, 1);
        r.due(before[2], "waiting", 2, 0);
    }

    private static void takesItsOwnAdvert() {
        Run r = new Run(5);
        r.ask("lay", 0, 1, 1, 8);
        r.takeAll(1);
        r.ask("share", 0);
        r.due(0, "take", 0, 1);
        r.due(1, "held", 0, 0);
        r.ask("announce", 0, 1, 8);
        r.askTimes(3, "lose", 0, 0);
        r.due(1, "take", 0, 1);
        r.ask("share", 0);
        r.askTimes(2, "lose", 0, 0);
        r.due(0, "take", 0, 1);
        r.due(2, "held", 0, 0);
        r.due(1, "waiting", 0, 0);
        r.due(0, "take", 0, 0);
        r.due(2, "held", 1, 0);
    }

    private static void goodInBothAdverts() {
        Run r = new Run(5);
        r.ask("lay", 0, 1, 5, 8);
        r.due(NONE, "distance", 0, 1);
        Run one = r.again();
        one.ask("take", 0, 1);
        one.due(5, "distance", 0, 1);
        one.due(NONE, "distance", 1, 0);
        one.ask("lay", 0, 1, 3, 8);
        one.due(5, "distance", 0, 1);
        one.due(NONE, "distance", 1, 0);
        one.ask("take", 1, 1);
        one.due(3, "distance", 0, 1);
        one.ask("take", 0, 0);
        one.due(5, "distance", 1, 0);
        one.ask("take", 1, 0);
        one.due(3, "distance", 1, 0);
    }

    private static void distanceOfItself() {
        Run r = new Run(5);
        r.due(0, "distance", 4, 4);
        r.ask("lay", 4, 5, 1, 8);
        r.takeAll(1);
        r.due(0, "distance", 4, 4);
        r.ask("cut", 0);
        r.due(0, "distance", 4, 4);
    }

    private static void leastSum() {
        int[][] cases = {{25, 26, 50}, {25, 25, 50}, {24, 25, 49}, {1, 1, 2}, {50, 50, 50}};
        for (int[] costs : cases) {
            Run r = new Run(5);
            r.ask("lay", 0, 1, costs[0], 8);
            r.ask("lay", 1, 2, costs[1], 8);
            r.ask("lay", 0, 2, 50, 8);
            r.takeAll(3);
            r.due(costs[2], "distance", 0, 2);
            r.due(costs[2], "distance", 2, 0);
        }
    }

    private static void longestWay() {
        int[] order = {3, 7, 0, 5, 1, 6, 2, 4};
        Run r = new Run(5);
        for (int i = 6; i >= 0; i--) {
            r.ask("lay", order[i], order[i + 1], 50, 8);
        }
        r.takeAll(7);
        r.due(350, "distance", 3, 4);
        r.due(350, "distance", 4, 3);
        r.due(300, "distance", 3, 2);
    }

    private static void longestPrefix() {
        for (int length = 1; length <= 8; length++) {
            Run r = new Run(5);
            r.ask("lay", 0, 1, 1, 8);
            r.ask("lay", 0, 2, 50, 8);
            r.ask("announce", 1, 0x5A, length - 1);
            r.ask("announce", 2, 0x5A, length);
            r.takeAll(2);
            r.due(1, "route", 0, 0x5A);
            r.due(0, "route", 0, 0x5A ^ 256 >> length);
        }
    }

    private static void longestOfARow() {
        for (int first = 0; first < 3; first++) {
            Run r = new Run(5);
            r.ask("lay", 0, 1, 1, 8);
            r.ask("lay", 0, 2, 1, 8);
            for (int i = 0; i < 3; i++) {
                r.ask("announce", 1, 128, 1 + (first + i) % 3);
            }
            r.ask("announce", 2, 128, 2);
            r.takeAll(2);
            r.due(0, "route", 0, 128);
            r.due(0, "route", 0, 159);
            r.due(1, "route", 2, 128);
            r.due(HERE, "route", 2, 160);
            r.due(1, "route", 2, 255);
        }
    }

    private static void leastDistanceThenLeastNumber() {
        int[][] cases = {{6, 7, 0}, {7, 7, 1}, {8, 7, 1}, {7, 6, 1}};
        for (int[] c : cases) {
            Run r = new Run(5);
            r.ask("lay", 3, 5, c[0], 8);
            r.ask("lay", 4, 3, c[1], 8);
            r.ask("announce", 5, 0, 1);
            r.ask("announce", 5, 0, 2);
            r.ask("announce", 4, 0, 2);
            r.ask("announce", 4, 1, 7);
            r.ask("withdraw", 4, 1);
            r.takeAll(2);
            r.due(c[2], "route", 3, 1);
            r.due(HERE, "route", 4, 1);
            r.due(HERE, "route", 5, 1);
            r.due(0, "route", 3, 64);
        }
    }

    private static void noneWithoutADistance() {
        Run r = new Run(5);
        r.due(NONE, "route", 0, 9);
        r.ask("lay", 0, 1, 1, 8);
        r.ask("announce", 1, 9, 8);
        r.takeAll(1);
        r.due(0, "route", 0, 9);
        r.due(NONE, "route", 0, 8);
        r.ask("cut", 0);
        r.due(NONE, "route", 0, 9);
        r.due(HERE, "route", 1, 9);
    }

    private static void longestWithADistance() {
        Run r = new Run(5);
        r.ask("lay", 0, 1, 9, 8);
        r.ask("lay", 0, 2, 1, 8);
        r.ask("announce", 1, 9, 0);
        r.ask("announce", 2, 9, 8);
        r.takeAll(2);
        r.due(1, "route", 0, 9);
        r.ask("cut", 1);
        r.due(0, "route", 0, 9);
        r.due(0, "route", 1, 9);
        r.takeAll(2);
        r.due(HERE, "route", 1, 9);
        r.ask("cut", 0);
        r.due(NONE, "route", 0, 9);
    }

    private static void hereBeforeOthers() {
        Run r = new Run(5);
        r.ask("lay", 1, 2, 1, 8);
        r.ask("announce", 1, 9, 8);
        r.ask("announce", 2, 9, 8);
        r.takeAll(1);
        r.due(HERE, "route", 1, 9);
        r.due(HERE, "route", 2, 9);
    }

    private static void leastLink() {
        Run r = new Run(5);
        r.ask("lay", 0, 2, 1, 8);
        r.ask("lay", 0, 1, 2, 8);
        r.ask("lay", 1, 0, 2, 8);
        r.ask("lay", 2, 1, 1, 8);
        r.ask("announce", 1, 0, 0);
        r.takeAll(4);
        for (int link = 0; link < 3; link++) {
            r.due(link, "route", 0, 0);
            r.ask("cut", link);
        }
        r.due(NONE, "route", 0, 0);
    }

    private static void twelvePackets() {
        Run r = new Run(5);
        for (int i = 1; i <= 12; i++) {
            r.due(REFUSED, "ended", i, 0);
            r.due(i, "send", 0, 0, 1);
            r.due(i, "piece", i, 0);
            r.due(0, "ended", i, 0);
        }
        r.due(FULL, "send", 0, 0, 1);
        r.due(FULL, "sendWhole", 7, 255, 500);
        r.ask("drop", 12);
        r.due(FULL, "send", 0, 0, 1);
    }

    private static void eightyPieces() {
        Run r = new Run(5);
        r.ask("send", 0, 0, 1);
        for (int i = 2; i <= 80; i++) {
            r.due(i, "copy", i - 1);
            r.due(1, "piece", i, 0);
        }
        r.due(REFUSED, "piece", 81, 0);
        r.due(FULL, "copy", 80);
        r.due(FULL, "copy", 1);
        r.ask("drop", 80);
        r.due(FULL, "copy", 1);
    }

    /** All is full: 12 links, of which 3 and 7 are down, 3 prefixes of 1, 12 packets, 80 pieces; 5 is one to split. */
    private static Run busy() {
        Run r = new Run(4);
        for (int i = 0; i < 12; i++) {
            r.ask("lay", i % 8, (i + 1) % 8, 1 + i, 8 + i);
        }
        r.ask("announce", 1, 0, 0);
        r.ask("announce", 1, 64, 2);
        r.ask("announce", 1, 64, 3);
        r.askTimes(12, "take", 0, 1);
        r.askTimes(4, "take", 0, 0);
        r.ask("cut", 3);
        r.ask("cut", 7);
        r.ask("sendWhole", 0, 0, 50);
        r.ask("send", 1, 0, 20);
        r.ask("send", 2, 0, 1);
        r.ask("send", 6, 200, 1);
        for (int i = 5; i <= 12; i++) {
            r.ask("send", 0, 0, 50 + i);
        }
        r.due(TOO_WIDE, "go", 1);
        r.due(ENDED, "go", 2);
        r.due(0, "drop", 3);
        r.due(UNREACHABLE, "go", 4);
        r.due(MOVING, "go", 12);
        r.askTimes(61, "copy", 11);
        r.due(MOVING, "piece", 80, 5);
        return r;
    }

    private static void refusedOfABusyObject() {
        Run r = busy();
        r.due(REFUSED, "lay", 2, 2, 1, 8);
        r.due(REFUSED, "cut", 3);
        r.due(REFUSED, "mend", 0);
        r.due(REFUSED, "share", 7);
        r.due(REFUSED, "announce", 1, 95, 3);
        r.due(REFUSED, "withdraw", 1, 3);
        r.due(REFUSED, "withdraw", 2, 0);
        r.due(REFUSED, "take", 7, 0);
        r.due(REFUSED, "lose", 3, 1);
        r.due(REFUSED, "send", 0, 0, 501);
        for (int piece = 0; piece <= 4; piece++) {
            r.due(REFUSED, "go", piece);
            r.due(REFUSED, "drop", piece);
            r.due(REFUSED, "copy", piece);
        }
    }

    private static void fullOfABusyObject() {
        Run r = busy();
        r.due(FULL, "lay", 0, 1, 1, 8);
        r.due(FULL, "announce", 1, 32, 3);
        r.due(FULL, "send", 0, 0, 1);
        r.due(FULL, "go", 5);
        r.due(FULL, "go", 80);
        r.due(FULL, "copy", 13);
    }

    private static void askingChangesNothing() {
        Run r = busy();
        List<Integer> before = r.state();
        r.due(0, "route", 0, 64);
        r.due(1, "distance", 0, 1);
        r.due(7, "held", 0, 1);
        r.due(0, "waiting", 7, 1);
        r.due(11, "piece", 80, 0);
        r.due(20, "ended", 2, 1);
        r.due(1, "arrived", 2, 1, 19);
        r.due(REFUSED, "route", 0, 256);
        if (!before.equals(r.state())) {
            complain("calls that only ask changed something");
        }
    }

    private static void numbersAreTestedFirst() {
        Run r = twelve();
        r.due(FULL, "lay", 0, 1, 1, 8);
        int[][] lays = {{-1, 1, 1, 8}, {8, 1, 1, 8}, {0, -1, 1, 8}, {0, 8, 1, 8}, {3, 3, 1, 8}, {0, 1, 0, 8},
            {0, 1, 51, 8}, {0, 1, 1, 7}, {0, 1, 1, 256}};
        for (int[] numbers : lays) {
            r.due(REFUSED, "lay", numbers);
        }
        r = new Run(5);
        for (int i = 0; i < 3; i++) {
            r.ask("announce", 2, i, 8);
        }
        r.due(FULL, "announce", 2, 3, 8);
        int[][] announces = {{2, -1, 8}, {2, 256, 8}, {2, 3, -1}, {2, 3, 9}, {-1, 3, 8}, {8, 3, 8}};
        for (int[] numbers : announces) {
            r.due(REFUSED, "announce", numbers);
        }
        r = eighty();
        r.due(FULL, "send", 0, 0, 1);
        r.due(FULL, "copy", 80);
        int[][] sends = {{-1, 0, 1}, {8, 0, 1}, {0, -1, 1}, {0, 256, 1}, {0, 0, 0}, {0, 0, 501}};
        for (int[] numbers : sends) {
            r.due(REFUSED, "send", numbers);
        }
        r.due(REFUSED, "copy", 0);
        r.due(REFUSED, "copy", 81);
    }

    private static void the512thCall() {
        Run r = new Run(5);
        for (int i = 0; i < 255; i++) {
            r.due(1, "announce", 0, i, 8);
            r.due(0, "withdraw", 0, 0);
        }
        r.due(1, "announce", 0, 255, 8);
        r.due(511, "held", 0, 0);
        Run links = new Run(5);
        links.ask("lay", 0, 1, 1, 8);
        for (int i = 0; i < 255; i++) {
            links.due(0, "cut", 0);
            links.due(0, "mend", 0);
        }
        links.due(511, "held", 1, 1);
    }

    // ---- Promises 1 to 9 ----

    private static void lifeIsClamped() {
        int[][] lives = {{Integer.MIN_VALUE, 1}, {-1, 1}, {0, 1}, {1, 1}, {2, 2}, {11, 11}, {12, 12}, {13, 12},
            {Integer.MAX_VALUE, 12}};
        for (int[] c : lives) {
            Run r = new Run(c[0]);
            r.ask("send", 0, 0, 1);
            r.due(c[1], "piece", 1, 3);
        }
    }

    /** 0 knows that its link to 2 is cut and sends by way of 1, which does not know it and sends by way of 0. */
    private static void lifeCountsHops() {
        for (int life : new int[] {0, 1, 12, 13}) {
            Run r = new Run(life);
            r.ask("lay", 0, 2, 1, 8);
            r.ask("lay", 0, 1, 1, 8);
            r.ask("lay", 1, 2, 10, 8);
            r.ask("announce", 2, 0, 0);
            r.takeAll(3);
            r.ask("cut", 0);
            r.ask("send", 0, 0, 8);
            int hops = life < 2 ? 1 : 12;
            for (int i = 1; i <= hops; i++) {
                r.due(MOVING, "go", 1);
                r.due(hops - i, "piece", 1, 3);
                r.due(i % 2, "piece", 1, 4);
            }
            r.due(EXPIRED, "go", 1);
            r.due(REFUSED, "go", 1);
        }
    }

    private static void layRanges() {
        Run r = pair(5, 8);
        r.range(0, 0, 7, 1, 1, "lay", 9, 3, 1, 8);
        r.range(1, 0, 7, 1, 1, "lay", 3, 9, 1, 8);
        r.range(2, 1, 50, 1, 1, "lay", 0, 1, 9, 8);
        r.range(3, 8, 255, 1, 1, "lay", 0, 1, 1, 9);
    }

    private static void costsAreKept() {
        for (int cost : new int[] {1, 2, 49, 50}) {
            Run r = new Run(5);
            r.due(0, "lay", 6, 7, cost, 8);
            r.takeAll(1);
            r.due(cost, "distance", 6, 7);
            r.due(cost, "distance", 7, 6);
        }
    }

    private static void layFull() {
        Run r = twelve();
        r.due(FULL, "lay", 0, 1, 1, 8);
        r.due(REFUSED, "waiting", 12, 0);
        Run eleven = new Run(5);
        for (int i = 0; i < 11; i++) {
            eleven.ask("lay", 0, 1, 1, 8);
        }
        eleven.due(11, "lay", 0, 1, 1, 8);
        eleven.due(2, "waiting", 11, 0);
        eleven.due(FULL, "lay", 0, 1, 1, 8);
    }

    private static void linkRange(String name) {
        boolean mending = name.equals("mend");
        Run none = new Run(5);
        none.due(REFUSED, name, 0);
        Run one = pair(5, 8);
        Run all = twelve();
        if (mending) {
            one.ask("cut", 0);
            all.ask("cut", 0);
            all.ask("cut", 11);
        }
        one.range(0, 0, 0, 0, 0, name, 9);
        all.range(0, 0, 11, 0, 0, name, 99);
    }

    private static void cutRange() {
        linkRange("cut");
    }

    private static void cutOfADownLink() {
        Run r = pair(5, 8);
        r.due(0, "cut", 0);
        r.due(REFUSED, "cut", 0);
        r.due(REFUSED, "cut", 0);
        r.due(0, "mend", 0);
        r.due(0, "cut", 0);
    }

    private static void cutOfEmptyAndFullRows() {
        Run r = pair(5, 8);
        r.due(0, "waiting", 0, 0);
        r.due(0, "cut", 0);
        r.due(0, "waiting", 0, 0);
        r.due(0, "mend", 0);
        r.askTimes(20, "share", 0);
        r.due(20, "waiting", 0, 0);
        r.due(20, "waiting", 0, 1);
        r.due(0, "cut", 0);
        for (int direction = 0; direction < 2; direction++) {
            r.due(0, "waiting", 0, direction);
            r.due(REFUSED, "take", 0, direction);
            r.due(REFUSED, "lose", 0, direction);
        }
        r.due(0, "mend", 0);
        r.dueRow(0, 0, 0, 0, 1);
        r.dueRow(0, 1, 1, 0, 1);
    }

    private static void mendRange() {
        linkRange("mend");
    }

    private static void mendOfAnUpLink() {
        Run r = pair(5, 8);
        r.due(REFUSED, "mend", 0);
        r.due(0, "cut", 0);
        r.due(0, "mend", 0);
        r.due(REFUSED, "mend", 0);
    }

    private static void shareRange() {
        linkRange("share");
    }

    private static void shareOfADownLink() {
        Run r = pair(5, 8);
        r.due(0, "share", 0);
        r.ask("cut", 0);
        r.due(REFUSED, "share", 0);
        r.ask("mend", 0);
        r.due(0, "share", 0);
    }

    private static void announceRanges() {
        Run r = pair(5, 8);
        r.range(0, 0, 7, 1, 1, "announce", 9, 64, 2);
        r.range(1, 0, 255, 1, 1, "announce", 0, 999, 8);
        r.range(1, 0, 255, 1, 1, "announce", 0, 999, 0);
        r.range(2, 0, 8, 1, 1, "announce", 0, 64, 9);
    }

    private static void announceOfTheSame() {
        Run r = new Run(5);
        for (int i = 0; i < 3; i++) {
            r.due(i + 1, "announce", 0, 192, 1 + i);
            for (int k = 0; k <= i; k++) {
                r.due(REFUSED, "announce", 0, 192, 1 + k);
            }
        }
        r.due(1, "announce", 1, 192, 1);
    }

    private static void announceFull() {
        Run r = new Run(5);
        r.ask("announce", 0, 0, 8);
        r.ask("announce", 0, 0, 7);
        r.due(3, "announce", 0, 0, 6);
        r.due(FULL, "announce", 0, 0, 5);
        r.due(REFUSED, "announce", 0, 0, 6);
        r.due(3, "held", 0, 0);
    }

    private static void withdrawRanges() {
        Run r = new Run(5);
        r.due(REFUSED, "withdraw", 0, 0);
        r.ask("announce", 0, 1, 8);
        r.ask("announce", 7, 1, 8);
        r.range(0, 0, 7, 0, 0, "withdraw", 9, 0);
        r.range(1, 0, 0, 0, 0, "withdraw", 0, 9);
        r.ask("announce", 0, 2, 8);
        r.range(1, 0, 1, 1, 1, "withdraw", 0, 9);
        r.ask("announce", 0, 3, 8);
        r.range(1, 0, 2, 2, 2, "withdraw", 0, 9);
    }

    private static void withdrawOfNone() {
        Run r = new Run(5);
        for (int i = 0; i < 8; i++) {
            r.due(REFUSED, "withdraw", i, 0);
        }
        for (int i = 0; i < 3; i++) {
            r.ask("announce", 4, i, 8);
        }
        for (int left = 2; left >= 0; left--) {
            r.due(REFUSED, "withdraw", 4, left + 1);
            r.due(left, "withdraw", 4, left);
        }
        r.due(REFUSED, "withdraw", 4, 0);
        r.due(6, "held", 4, 4);
    }

    private static void rowRanges(String name) {
        Run none = new Run(5);
        none.due(REFUSED, name, 0, 0);
        Run one = new Run(5);
        one.ask("lay", 6, 2, 1, 8);
        one.range(0, 0, 0, 6, 6, name, 9, 0);
        one.range(1, 0, 1, 6, 2, name, 0, 9);
        Run all = twelve();
        all.range(0, 0, 11, 0, 3, name, 99, 0);
        all.range(1, 0, 1, 3, 4, name, 11, 9);
    }

    private static void emptied(String name) {
        Run r = new Run(5);
        r.ask("lay", 6, 2, 1, 8);
        r.due(6, name, 0, 0);
        r.due(6, name, 0, 0);
        r.due(REFUSED, name, 0, 0);
        r.due(2, "waiting", 0, 1);
        r.due(2, name, 0, 1);
        r.due(2, name, 0, 1);
        r.due(REFUSED, name, 0, 1);
        r.ask("announce", 6, 0, 0);
        r.due(6, name, 0, 0);
        r.due(REFUSED, name, 0, 0);
    }

    private static void takeRanges() {
        rowRanges("take");
    }

    private static void takeOfNone() {
        emptied("take");
    }

    private static void loseRanges() {
        rowRanges("lose");
    }

    private static void loseOfNone() {
        emptied("lose");
    }

    // ---- Promises 10 to 13 ----

    private static void sendRanges() {
        Run r = pair(5, 8);
        for (String name : new String[] {"send", "sendWhole"}) {
            r.range(0, 0, 7, 1, 1, name, 9, 0, 1);
            r.range(1, 0, 255, 1, 1, name, 0, 999, 1);
            r.range(2, 1, 500, 1, 1, name, 0, 0, 0);
        }
    }

    private static void sendLengths() {
        for (int length : new int[] {1, 2, 499, 500}) {
            Run r = new Run(5);
            r.ask("announce", 7, 255, 8);
            r.due(1, "send", 7, 255, length);
            r.duePiece(1, 1, 0, length, 5, 7, MOVING);
            r.due(REFUSED, "piece", 2, 0);
            r.due(ENDED, "go", 1);
            r.due(length, "ended", 1, 7);
        }
    }

    private static void sendFullOfPackets() {
        Run r = pair(5, 8);
        for (int i = 1; i <= 12; i++) {
            r.due(i, "send", 1, 0, 500);
            r.ask("go", i);
        }
        r.due(FULL, "send", 1, 0, 1);
        r.due(REFUSED, "ended", 13, 1);
        r.due(500, "ended", 12, 1);
    }

    private static void sendFullOfPieces() {
        Run r = pair(5, 8);
        r.ask("send", 0, 0, 1);
        r.askTimes(78, "copy", 1);
        r.due(2, "send", 0, 0, 5);
        r.duePiece(80, 2, 0, 5, 5, 0, MOVING);
        r.due(FULL, "send", 0, 0, 1);
        r.due(REFUSED, "ended", 3, 0);
    }

    /** The call is taken of a MOVING piece alone: not of one that is not there, nor of one in any other state. */
    private static void movingAlone(String name) {
        Run none = new Run(1);
        none.due(REFUSED, name, 1);
        Run r = pair(1, 8);
        r.ask("send", 1, 0, 1);
        r.beyond(REFUSED, 0, 1, 1, name, 9);
        r.due(ENDED, "go", 1);
        r.ask("sendWhole", 0, 0, 9);
        r.due(TOO_WIDE, "go", 2);
        r.ask("send", 0, 0, 8);
        r.due(MOVING, "go", 3);
        r.ask("withdraw", 1, 0);
        r.due(EXPIRED, "go", 3);
        r.ask("send", 1, 0, 8);
        r.due(UNREACHABLE, "go", 4);
        r.ask("send", 1, 0, 8);
        r.due(0, "drop", 5);
        int[] states = {ENDED, TOO_WIDE, EXPIRED, UNREACHABLE, DROPPED};
        for (int i = 0; i < 5; i++) {
            r.due(states[i], "piece", i + 1, 5);
            r.due(REFUSED, name, i + 1);
        }
    }

    private static void goOfMovingAlone() {
        movingAlone("go");
    }

    private static void goOfTheLastPiece() {
        Run r = eighty();
        r.ask("announce", 0, 0, 0);
        r.due(ENDED, "go", 1);
        r.due(ENDED, "go", 80);
        r.due(REFUSED, "go", 0);
        r.due(REFUSED, "go", 81);
    }

    private static void hereWithLifeZero() {
        Run r = pair(1, 8);
        r.ask("send", 0, 0, 8);
        r.due(MOVING, "go", 1);
        r.due(0, "piece", 1, 3);
        r.due(ENDED, "go", 1);
        r.duePiece(1, 1, 0, 8, 0, 1, ENDED);
        r.due(8, "ended", 1, 1);
    }

    private static void lifeZeroComesBeforeTheRest() {
        Run r = new Run(1);
        r.ask("lay", 0, 1, 1, 16);
        r.ask("lay", 1, 2, 1, 8);
        r.ask("announce", 2, 0, 0);
        r.takeAll(2);
        r.ask("sendWhole", 0, 0, 9);
        r.ask("send", 0, 0, 9);
        r.ask("send", 0, 0, 8);
        for (int piece = 1; piece <= 3; piece++) {
            r.due(MOVING, "go", piece);
            r.due(1, "piece", piece, 4);
        }
        Run cut = r.again();
        cut.ask("cut", 1);
        r.askTimes(77, "copy", 3);
        for (int piece = 1; piece <= 3; piece++) {
            r.due(EXPIRED, "go", piece);
            cut.due(EXPIRED, "go", piece);
        }
        r.duePiece(2, 2, 0, 9, 0, 1, EXPIRED);
    }

    private static void noRoute() {
        Run r = new Run(5);
        r.ask("send", 0, 0, 1);
        r.due(UNREACHABLE, "go", 1);
        r.duePiece(1, 1, 0, 1, 5, 0, UNREACHABLE);
        r.due(REFUSED, "go", 1);
        Run last = pair(1, 8);
        last.ask("cut", 0);
        last.ask("sendWhole", 0, 0, 500);
        last.due(UNREACHABLE, "go", 1);
        last.due(1, "piece", 1, 3);
    }

    private static void widthOfAWholePacket() {
        for (int width : new int[] {8, 9, 15, 16, 254, 255}) {
            Run r = pair(5, width);
            r.ask("sendWhole", 0, 0, width - 1);
            r.ask("sendWhole", 0, 0, width);
            r.ask("sendWhole", 0, 0, width + 1);
            r.due(MOVING, "go", 1);
            r.due(MOVING, "go", 2);
            r.due(TOO_WIDE, "go", 3);
            r.duePiece(1, 1, 0, width - 1, 4, 1, MOVING);
            r.duePiece(2, 2, 0, width, 4, 1, MOVING);
            r.duePiece(3, 3, 0, width + 1, 5, 0, TOO_WIDE);
            r.due(REFUSED, "piece", 4, 0);
        }
    }

    private static void widthOfASplit() {
        int[][] cases = {{8, 8}, {9, 8}, {15, 8}, {16, 16}, {17, 16}, {23, 16}, {24, 24}, {254, 248}, {255, 248}};
        for (int[] c : cases) {
            int width = c[0];
            int keeps = c[1];
            Run r = pair(5, width);
            r.ask("send", 0, 0, width);
            r.due(MOVING, "go", 1);
            r.duePiece(1, 1, 0, width, 4, 1, MOVING);
            r.due(REFUSED, "piece", 2, 0);
            r.ask("send", 0, 0, width + 1);
            r.due(MOVING, "go", 2);
            r.duePiece(2, 2, 0, keeps, 4, 1, MOVING);
            r.duePiece(3, 2, keeps, width + 1 - keeps, 4, 1, MOVING);
            r.due(REFUSED, "piece", 4, 0);
        }
    }

    private static void lastPartOfASplit() {
        int[][] cases = {{31, 15}, {32, 16}, {33, 16}, {47, 16}, {48, 16}, {49, 16}};
        for (int[] c : cases) {
            Run r = pair(5, 17);
            r.ask("send", 0, 0, c[0]);
            r.due(MOVING, "go", 1);
            r.duePiece(2, 1, 16, c[1], 4, 1, MOVING);
            int left = c[0] - 32;
            r.due(left > 0 ? Math.min(16, left) : REFUSED, "piece", 3, 2);
            r.due(left > 16 ? left - 16 : REFUSED, "piece", 4, 2);
            r.due(REFUSED, "piece", 5, 2);
        }
    }

    private static void goFull() {
        int[][] cases = {{128, MOVING, 79}, {129, MOVING, 80}, {136, MOVING, 80}, {137, FULL, 64}, {500, FULL, 64}};
        for (int[] c : cases) {
            Run r = pair(5, 8);
            r.ask("send", 0, 0, 500);
            r.ask("send", 0, 0, c[0]);
            r.due(MOVING, "go", 1);
            r.due(4, "piece", 64, 2);
            r.due(c[1], "go", 2);
            r.due(MOVING, "piece", c[2], 5);
            r.due(REFUSED, "piece", c[2] + 1, 5);
            r.duePiece(2, 2, 0, c[1] == FULL ? c[0] : 8, c[1] == FULL ? 5 : 4, c[1] == FULL ? 0 : 1, MOVING);
        }
    }

    private static void goWithEightyPieces() {
        Run r = eighty();
        r.due(FULL, "go", 2);
        r.due(FULL, "go", 80);
        r.due(TOO_WIDE, "go", 1);
        Run fits = pair(3, 9);
        fits.ask("send", 0, 0, 9);
        fits.askTimes(79, "copy", 1);
        fits.due(MOVING, "go", 80);
        fits.due(ENDED, "go", 80);
        Run none = eighty();
        none.ask("cut", 0);
        none.due(UNREACHABLE, "go", 2);
    }

    private static void goOnceMoreAfterFull() {
        Run r = eighty();
        r.due(FULL, "go", 2);
        r.ask("announce", 0, 0, 8);
        r.due(ENDED, "go", 2);
        r.due(9, "ended", 2, 0);
    }

    private static void dropOfMovingAlone() {
        movingAlone("drop");
    }

    private static void dropOfTheLastPiece() {
        Run r = eighty();
        r.range(0, 1, 80, 0, 0, "drop", 99);
        r.due(0, "drop", 80);
        r.due(DROPPED, "piece", 80, 5);
        r.due(REFUSED, "drop", 80);
    }

    private static void copyOfMovingAlone() {
        movingAlone("copy");
    }

    private static void copyWithLifeZero() {
        Run r = pair(1, 8);
        r.ask("send", 0, 0, 12);
        r.ask("go", 1);
        r.due(3, "copy", 2);
        r.duePiece(3, 1, 8, 4, 0, 1, MOVING);
        r.ask("withdraw", 1, 0);
        r.due(EXPIRED, "go", 3);
        r.due(MOVING, "piece", 2, 5);
    }

    private static void copyFull() {
        Run r = pair(5, 8);
        r.ask("send", 0, 0, 1);
        r.askTimes(78, "copy", 1);
        r.range(0, 1, 79, 80, 80, "copy", 99);
        r.due(80, "copy", 79);
        r.due(FULL, "copy", 1);
        r.due(FULL, "copy", 80);
        r.ask("drop", 7);
        r.due(REFUSED, "copy", 7);
        r.due(FULL, "copy", 8);
    }

    // ---- Promises 14 to 20 ----

    private static void routeRanges() {
        Run r = pair(5, 8);
        r.ask("announce", 7, 0, 0);
        r.range(0, 0, 7, 0, HERE, "route", 9, 0);
        r.range(1, 0, 255, 0, 0, "route", 0, 999);
    }

    private static void distanceRanges() {
        Run r = new Run(5);
        r.ask("lay", 0, 7, 50, 8);
        r.takeAll(1);
        r.range(0, 0, 7, 50, 0, "distance", 9, 7);
        r.range(1, 0, 7, 50, 0, "distance", 7, 9);
        r.due(NONE, "distance", 0, 6);
        r.due(NONE, "distance", 6, 0);
        r.due(REFUSED, "distance", 8, 8);
        r.due(REFUSED, "distance", -1, -1);
    }

    private static void heldRanges() {
        Run r = new Run(5);
        r.ask("lay", 0, 7, 50, 8);
        r.ask("announce", 7, 0, 0);
        r.takeAll(1);
        r.range(0, 0, 7, 2, 2, "held", 9, 7);
        r.range(1, 0, 7, 1, 2, "held", 0, 9);
        r.due(0, "held", 0, 6);
        r.due(0, "held", 6, 6);
    }

    private static void waitingRanges() {
        Run none = new Run(5);
        none.due(REFUSED, "waiting", 0, 0);
        Run one = new Run(5);
        one.ask("lay", 0, 1, 1, 8);
        one.ask("announce", 1, 0, 0);
        one.range(0, 0, 0, 2, 2, "waiting", 9, 0);
        one.range(1, 0, 1, 2, 3, "waiting", 0, 9);
        Run all = twelve();
        all.range(0, 0, 11, 4, 2, "waiting", 99, 0);
        all.range(1, 0, 1, 2, 2, "waiting", 11, 9);
    }

    private static void waitingFromNoneToTwenty() {
        Run r = pair(5, 8);
        r.due(0, "waiting", 0, 0);
        for (int i = 1; i <= 25; i++) {
            r.ask("announce", 0, i, 8);
            r.ask("withdraw", 0, 0);
            r.due(Math.min(20, 2 * i), "waiting", 0, 0);
        }
        r.due(0, "waiting", 0, 1);
    }

    private static void pieceRanges() {
        Run none = new Run(5);
        none.due(REFUSED, "piece", 0, 0);
        none.due(REFUSED, "piece", 1, 0);
        Run one = pair(5, 8);
        one.ask("send", 0, 0, 3);
        one.range(0, 1, 1, 1, 1, "piece", 99, 0);
        one.range(1, 0, 5, 1, MOVING, "piece", 1, 99);
        Run all = eighty();
        all.range(0, 1, 80, 1, 2, "piece", 99, 0);
        all.range(1, 0, 5, 2, MOVING, "piece", 80, 99);
        all.due(REFUSED, "piece", 81, 6);
    }

    private static void endedRanges() {
        Run none = new Run(5);
        none.due(REFUSED, "ended", 0, 0);
        none.due(REFUSED, "ended", 1, 0);
        Run all = new Run(5);
        all.ask("announce", 0, 0, 0);
        all.ask("announce", 7, 0, 0);
        for (int i = 1; i <= 12; i++) {
            all.ask("send", i % 2 == 0 ? 7 : 0, 0, 30 + i);
            all.ask("go", i);
        }
        all.range(0, 1, 12, 0, 42, "ended", 99, 7);
        all.range(1, 0, 7, 0, 42, "ended", 12, 99);
        all.range(1, 0, 7, 31, 0, "ended", 1, 99);
    }

    private static void endedCountsDifferentBytes() {
        Run r = pair(5, 16);
        r.ask("send", 0, 0, 500);
        r.ask("copy", 1);
        r.due(0, "ended", 1, 1);
        r.ask("go", 1);
        for (int i = 0; i < 32; i++) {
            r.due(Math.min(500, 16 * i), "ended", 1, 1);
            r.due(ENDED, "go", i == 0 ? 1 : i + 2);
        }
        r.due(500, "ended", 1, 1);
        r.ask("announce", 0, 0, 0);
        r.due(ENDED, "go", 2);
        r.due(500, "ended", 1, 0);
        r.due(500, "ended", 1, 1);
        r.due(0, "ended", 1, 2);
    }

    private static void endedTwiceCountsOnce() {
        Run r = pair(5, 8);
        r.ask("send", 1, 0, 9);
        r.ask("copy", 1);
        r.due(ENDED, "go", 1);
        r.due(ENDED, "go", 2);
        r.due(9, "ended", 1, 1);
    }

    private static void arrivedRanges() {
        Run none = new Run(5);
        none.due(0, "arrived", 1, 0, 0);
        for (int length : new int[] {1, 63, 64, 65, 499, 500}) {
            Run r = new Run(5);
            r.ask("announce", 0, 0, 0);
            r.ask("announce", 7, 0, 0);
            r.ask("send", 0, 0, length);
            r.ask("copy", 1);
            r.ask("send", 7, 0, length);
            r.ask("go", 1);
            r.ask("go", 3);
            r.due(1, "arrived", 1, 0, 0);
            r.due(1, "arrived", 1, 0, length - 1);
            r.due(1, "arrived", 2, 7, 0);
            r.due(1, "arrived", 2, 7, length - 1);
            r.due(0, "arrived", 1, 7, 0);
            r.due(0, "arrived", 2, 0, length - 1);
            r.beyond(0, 0, 1, 2, "arrived", 9, 0, 0);
            r.beyond(0, 1, 0, 7, "arrived", 1, 9, 0);
            r.beyond(0, 2, 0, length - 1, "arrived", 1, 0, 999);
            r.beyond(0, 2, 0, 499, "arrived", 1, 0, 999);
            r.beyond(0, 2, 0, 511, "arrived", 1, 0, 999);
        }
    }

    private static void arrivedOfAPart() {
        int[][] parts = {{0, 16}, {16, 16}, {32, 16}, {48, 2}};
        for (int k = 0; k < 4; k++) {
            Run r = pair(5, 23);
            r.ask("send", 0, 0, 50);
            r.ask("go", 1);
            r.due(ENDED, "go", k + 1);
            for (int i = 0; i < 50; i++) {
                boolean in = i >= parts[k][0] && i < parts[k][0] + parts[k][1];
                r.due(in ? 1 : 0, "arrived", 1, 1, i);
            }
            r.due(parts[k][1], "ended", 1, 1);
        }
    }

    private static void test(String words, Runnable body) {
        sentence = words;
        tests++;
        body.run();
    }

    private static void testTermsOfLinksAndPrefixes() {
        test("Terms: ROUTERS 0 .. 7", EdgesTest::eightRouters);
        test("Terms: LINKS are numbered 0, 1, .. as they are laid", EdgesTest::linkNumbers);
        test("Terms: at most 12 links", EdgesTest::noMoreThanTwelveLinks);
        test("Terms: a link joins two different routers", EdgesTest::differentRouters);
        test("Terms: a link is up (at first) or down", EdgesTest::upAtFirst);
        test("Terms: several links may join the same two", EdgesTest::severalLinks);
        test("Terms: ADDRESSES 0 .. 255", EdgesTest::addresses);
        test("Terms: a PREFIX holds the addresses whose upper length bits are those of bits", EdgesTest::prefixHolds);
        test("Terms: length 0 .. 8", EdgesTest::prefixOfLengthZeroAndEight);
        test("Terms: its other bits are 0", EdgesTest::otherBitsAreZero);
        test("Terms: at most 3 OWN prefixes", EdgesTest::threeOwn);
        test("Terms: in the order in which they were announced", EdgesTest::ownInOrder);
        test("Terms: the next number (its first one is 1)", EdgesTest::numbersBeginAtOne);
        test("Terms: its links that are up, and its own prefixes", EdgesTest::tellsWithoutLinksAndPrefixes);
        test("Terms: at most one advert of each origin; none at first", EdgesTest::noneHeldAtFirst);
    }

    private static void testTermsOfRows() {
        test("Terms: a row of waiting adverts, empty", EdgesTest::emptyRow);
        test("Terms: at most 20 wait", EdgesTest::twentyWait);
        test("Terms: if 20 wait there it is lost", EdgesTest::lostOnThatLinkAlone);
        test("Terms: if 20 wait there it is lost, to SHARE", EdgesTest::shareIntoTheLastPlace);
        test("Terms: if 20 wait there it is lost, sent on", EdgesTest::takenIsLostOnAFullLink);
        test("Terms: if 20 wait there it is lost, sent back", EdgesTest::answerIsLostOnAFullLink);
        test("Terms: to put it at the end of the row", EdgesTest::rowWrapsAround);
        test("Terms: TAKES, holds one with a less number", EdgesTest::takesALessNumber);
        test("Terms: TAKES, the same number: nothing", EdgesTest::takesTheSameNumber);
        test("Terms: TAKES, holds one with a greater number", EdgesTest::takesAGreaterNumber);
        test("Terms: TAKES, an advert of its own", EdgesTest::takesItsOwnAdvert);
    }

    private static void testTermsOfRoutes() {
        test("Terms: GOOD if both are held and both have the link", EdgesTest::goodInBothAdverts);
        test("Terms: DISTANCE, 0 if d is r", EdgesTest::distanceOfItself);
        test("Terms: DISTANCE, the least sum", EdgesTest::leastSum);
        test("Terms: DISTANCE, over all the routers", EdgesTest::longestWay);
        test("Terms: ROUTE, the longest", EdgesTest::longestPrefix);
        test("Terms: ROUTE, the longest of a row of prefixes", EdgesTest::longestOfARow);
        test("Terms: ROUTE, the least DISTANCE, then the least number", EdgesTest::leastDistanceThenLeastNumber);
        test("Terms: ROUTE, there is none: NONE", EdgesTest::noneWithoutADistance);
        test("Terms: ROUTE, whose origin has a DISTANCE, the longest", EdgesTest::longestWithADistance);
        test("Terms: ROUTE, END is r: HERE", EdgesTest::hereBeforeOthers);
        test("Terms: ROUTE, the link with the least number", EdgesTest::leastLink);
    }

    private static void testTermsOfPacketsAndCalls() {
        test("Terms: PACKETS are numbered 1, 2, .. at most 12", EdgesTest::twelvePackets);
        test("Terms: PIECES, numbered 1, 2, .., at most 80", EdgesTest::eightyPieces);
        test("Terms: a call that is REFUSED changes nothing", EdgesTest::refusedOfABusyObject);
        test("Terms: a call that is FULL changes nothing", EdgesTest::fullOfABusyObject);
        test("Promises 14 to 20: what only asks changes nothing", EdgesTest::askingChangesNothing);
        test("Terms: numbers out of range are tested first", EdgesTest::numbersAreTestedFirst);
        test("What it is: at most 512 calls", EdgesTest::the512thCall);
    }

    private static void testPromises1To5() {
        test("Promise 1: clamped to 1 .. 12", EdgesTest::lifeIsClamped);
        test("Promise 1: the LIFE of new pieces", EdgesTest::lifeCountsHops);
        test("Promise 2: a and b (0 .. 7), cost 1 .. 50, width 8 .. 255", EdgesTest::layRanges);
        test("Promise 2: the least and the greatest cost", EdgesTest::costsAreKept);
        test("Promise 2: there are 12: FULL", EdgesTest::layFull);
        test("Promise 3: the link", EdgesTest::cutRange);
        test("Promise 3: it is down: REFUSED", EdgesTest::cutOfADownLink);
        test("Promise 3: what waits on it in both directions is lost", EdgesTest::cutOfEmptyAndFullRows);
        test("Promise 4: the link", EdgesTest::mendRange);
        test("Promise 4: it is up: REFUSED", EdgesTest::mendOfAnUpLink);
        test("Promise 5: a link", EdgesTest::shareRange);
        test("Promise 5: that is up, else REFUSED", EdgesTest::shareOfADownLink);
    }

    private static void testPromises6To9() {
        test("Promise 6: router 0 .. 7, bits 0 .. 255, length 0 .. 8", EdgesTest::announceRanges);
        test("Promise 6: it has the same one: REFUSED", EdgesTest::announceOfTheSame);
        test("Promise 6: it has 3: FULL", EdgesTest::announceFull);
        test("Promise 7: the router's k-th (from 0)", EdgesTest::withdrawRanges);
        test("Promise 7: there is none: REFUSED", EdgesTest::withdrawOfNone);
        test("Promise 8: the link, the direction 0 or 1", EdgesTest::takeRanges);
        test("Promise 8: none waits: REFUSED", EdgesTest::takeOfNone);
        test("Promise 9: the link, the direction 0 or 1", EdgesTest::loseRanges);
        test("Promise 9: none waits: REFUSED", EdgesTest::loseOfNone);
    }

    private static void testPromises10To13() {
        test("Promise 10: the router, the address, the length 1 .. 500", EdgesTest::sendRanges);
        test("Promise 10: all of its bytes are one piece", EdgesTest::sendLengths);
        test("Promise 10: there are 12 packets: FULL", EdgesTest::sendFullOfPackets);
        test("Promise 10: or 80 pieces: FULL", EdgesTest::sendFullOfPieces);
        test("Promise 11: a MOVING piece (else REFUSED)", EdgesTest::goOfMovingAlone);
        test("Promise 11: a piece", EdgesTest::goOfTheLastPiece);
        test("Promise 11: in this order, HERE: it is ENDED", EdgesTest::hereWithLifeZero);
        test("Promise 11: in this order, its LIFE is 0: EXPIRED", EdgesTest::lifeZeroComesBeforeTheRest);
        test("Promise 11: in this order, NONE: UNREACHABLE", EdgesTest::noRoute);
        test("Promise 11: narrower, and stays whole: TOO_WIDE", EdgesTest::widthOfAWholePacket);
        test("Promise 11: narrower: the greatest multiple of 8 not above the width", EdgesTest::widthOfASplit);
        test("Promise 11: the last one with what is left", EdgesTest::lastPartOfASplit);
        test("Promise 11: there would be more than 80 pieces: FULL", EdgesTest::goFull);
        test("Promise 11: in this order, with 80 pieces", EdgesTest::goWithEightyPieces);
        test("Promise 11: FULL, and it goes on later", EdgesTest::goOnceMoreAfterFull);
        test("Promise 12: a MOVING piece (else REFUSED)", EdgesTest::dropOfMovingAlone);
        test("Promise 12: a piece", EdgesTest::dropOfTheLastPiece);
        test("Promise 13: the MOVING piece (else REFUSED)", EdgesTest::copyOfMovingAlone);
        test("Promise 13: like the MOVING piece", EdgesTest::copyWithLifeZero);
        test("Promise 13: there are 80: FULL", EdgesTest::copyFull);
    }

    private static void testPromises14To20() {
        test("Promise 14: the router, the address", EdgesTest::routeRanges);
        test("Promise 15: the routers; NONE if there is no way", EdgesTest::distanceRanges);
        test("Promise 16: the router, the origin; 0 if none", EdgesTest::heldRanges);
        test("Promise 17: the link, the direction", EdgesTest::waitingRanges);
        test("Promise 17: adverts that wait", EdgesTest::waitingFromNoneToTwenty);
        test("Promise 18: 0 .. 5; else REFUSED", EdgesTest::pieceRanges);
        test("Promise 19: the packet, the router", EdgesTest::endedRanges);
        test("Promise 19: how many bytes", EdgesTest::endedCountsDifferentBytes);
        test("Promise 19: different bytes", EdgesTest::endedTwiceCountsOnce);
        test("Promise 20: false for numbers out of range", EdgesTest::arrivedRanges);
        test("Promise 20: whether byte i ended", EdgesTest::arrivedOfAPart);
    }

    public static void main(String[] args) {
        testTermsOfLinksAndPrefixes();
        testTermsOfRows();
        testTermsOfRoutes();
        testTermsOfPacketsAndCalls();
        testPromises1To5();
        testPromises6To9();
        testPromises10To13();
        testPromises14To20();
        System.out.println(wrong == 0 ? "all " + tests + " edges are as due" : wrong + " answers are not as due");
        if (wrong != 0) {
            System.exit(1);
        }
    }
}
