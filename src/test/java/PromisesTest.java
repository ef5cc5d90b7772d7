/** The document's promises one by one, each by answers worked out by hand from its words. */
public final class PromisesTest {
    private static final int REFUSED = -1;
    private static final int FULL = -2;
    private static final int NONE = -3;
    private static final int HERE = -4;
    private static final int[] WILD = {Integer.MIN_VALUE, -1000, -1, 1000, Integer.MAX_VALUE};

    private static int wrong;
    private static int promise;

    private static void due(String call, long got, long want) {
        if (got != want) {
            wrong++;
            System.out.println("promise " + promise + ": " + call + " answered " + got + ", due is " + want);
        }
    }

    private static void due(String call, boolean got, boolean want) {
        due(call, got ? 1 : 0, want ? 1 : 0);
    }

    /** Takes all that waits, until nothing does. */
    private static void settle(RouterNet x, int links) {
        boolean some = true;
        while (some) {
            some = false;
            for (int i = 0; i < 2 * links; i++) {
                while (x.waiting(i / 2, i % 2) > 0) {
                    x.take(i / 2, i % 2);
                    some = true;
                }
            }
        }
    }

    private static void dueRow(RouterNet x, int link, int direction, int... origins) {
        due("waiting(" + link + ", " + direction + ")", x.waiting(link, direction), origins.length);
        for (int i = 0; i < origins.length; i++) {
            due("lose(" + link + ", " + direction + ") no. " + i, x.lose(link, direction), origins[i]);
        }
    }

    private static void duePiece(RouterNet x, int piece, int... parts) {
        for (int what = 0; what < parts.length; what++) {
            due("piece(" + piece + ", " + what + ")", x.piece(piece, what), parts[what]);
        }
    }

    /** Routers 0 - 1 over link 0; 1 has all addresses and 0 knows it. */
    private static RouterNet pair(int life, int width) {
        RouterNet x = new RouterNet(life);
        x.lay(0, 1, 1, width);
        x.announce(1, 0, 0);
        settle(x, 1);
        return x;
    }

    private static void promise1() {
        int[][] lives = {{Integer.MIN_VALUE, 1}, {-1, 1}, {0, 1}, {1, 1}, {2, 2}, {11, 11}, {12, 12}, {13, 12},
            {Integer.MAX_VALUE, 12}};
        for (int[] pair : lives) {
            RouterNet x = new RouterNet(pair[0]);
            x.send(0, 0, 1, false);
            due("LIFE with RouterNet(" + pair[0] + ")", x.piece(1, 3), pair[1]);
        }
        RouterNet x = new RouterNet(5);
        for (int i = 0; i < 8; i++) {
            for (int j = 0; j < 8; j++) {
                due("held new", x.held(i, j), 0);
                due("distance new", x.distance(i, j), i == j ? 0 : NONE);
            }
            due("route new", x.route(i, 0), NONE);
            due("withdraw new", x.withdraw(i, 0), REFUSED);
        }
        due("waiting new", x.waiting(0, 0), REFUSED);
        due("piece new", x.piece(1, 0), REFUSED);
        due("ended new", x.ended(1, 0), REFUSED);
        RouterNet other = new RouterNet(5);
        other.lay(0, 1, 1, 8);
        due("two objects share nothing", x.waiting(0, 0), REFUSED);
    }

    private static void promise2() {
        RouterNet x = new RouterNet(5);
        int[][] bad = {{0, 0, 1, 8}, {7, 7, 1, 8}, {-1, 0, 1, 8}, {0, -1, 1, 8}, {8, 0, 1, 8}, {0, 8, 1, 8},
            {0, 1, 0, 8}, {0, 1, 51, 8}, {0, 1, 1, 7}, {0, 1, 1, 256}, {0, 1, -1, 8}, {0, 1, 1, -8}};
        for (int[] b : bad) {
            due("bad lay", x.lay(b[0], b[1], b[2], b[3]), REFUSED);
        }
        for (int w : WILD) {
            due("wild a", x.lay(w, 1, 1, 8), REFUSED);
            due("wild b", x.lay(0, w, 1, 8), REFUSED);
            due("wild cost", x.lay(0, 1, w, 8), REFUSED);
            due("wild width", x.lay(0, 1, 1, w), REFUSED);
        }
        due("held after bad lay", x.held(0, 0), 0);
        due("lay(2, 1, 1, 8)", x.lay(2, 1, 1, 8), 0);
        due("2 told", x.held(2, 2), 1);
        due("1 told", x.held(1, 1), 1);
        due("2 has not 1's yet", x.held(2, 1), 0);
        dueRow(x, 0, 0, 2, 2);
        dueRow(x, 0, 1, 1, 1);
        x.share(0);
        x.take(0, 0);
        x.lose(0, 1);
        due("lay(1, 3, 50, 255)", x.lay(1, 3, 50, 255), 1);
        dueRow(x, 0, 1, 1);
        dueRow(x, 0, 0);
        dueRow(x, 1, 0, 1, 1, 2);
        dueRow(x, 1, 1, 3, 3);
        for (int i = 2; i < 12; i++) {
            due("lay no. " + i, x.lay(4, 5, 1, 8), i);
        }
        due("held before FULL", x.held(4, 4), 10);
        int before = x.waiting(2, 0);
        due("13th lay", x.lay(4, 5, 1, 8), FULL);
        due("13th lay, wrong numbers", x.lay(4, 4, 1, 8), REFUSED);
        due("13th lay, wrong cost", x.lay(4, 5, 0, 8), REFUSED);
        due("held after FULL", x.held(4, 4), 10);
        due("waiting after FULL", x.waiting(2, 0), before);
        due("waiting(12, 0)", x.waiting(12, 0), REFUSED);
    }

    private static void promise3() {
        RouterNet x = new RouterNet(5);
        x.lay(0, 1, 1, 8);
        x.lay(1, 2, 1, 8);
        for (int w : WILD) {
            due("cut(" + w + ")", x.cut(w), REFUSED);
        }
        due("cut(2), not laid", x.cut(2), REFUSED);
        settle(x, 2);
        due("distance before", x.distance(2, 0), 2);
        x.share(0);
        due("cut(0)", x.cut(0), 0);
        due("waiting toward the second", x.waiting(0, 0), 0);
        due("waiting toward the first", x.waiting(0, 1), 0);
        due("0 told", x.held(0, 0), 2);
        due("1 told", x.held(1, 1), 3);
        due("2 did not", x.held(2, 2), 1);
        due("1 sees it at once", x.distance(1, 0), NONE);
        due("2 does not yet", x.distance(2, 0), 2);
        due("1 sent over its other link", x.waiting(1, 0), 1);
        due("cut(0) again", x.cut(0), REFUSED);
        due("nobody told", x.held(0, 0), 2);
        x.take(1, 0);
        due("2 sees it now", x.distance(2, 0), NONE);
        due("take on a cut link", x.take(0, 0), REFUSED);
        x.announce(0, 0, 0);
        due("nothing is sent over a link that is down", x.waiting(0, 0), 0);
    }

    private static void promise4() {
        RouterNet x = new RouterNet(5);
        x.lay(0, 1, 3, 8);
        x.lay(1, 2, 4, 8);
        settle(x, 2);
        for (int w : WILD) {
            due("mend(" + w + ")", x.mend(w), REFUSED);
        }
        due("mend(2), not laid", x.mend(2), REFUSED);
        due("mend(1), up", x.mend(1), REFUSED);
        due("nobody told", x.held(2, 2), 1);
        x.cut(0);
        settle(x, 2);
        due("no way", x.distance(2, 0), NONE);
        due("mend(0)", x.mend(0), 0);
        due("0 told", x.held(0, 0), 3);
        due("1 told", x.held(1, 1), 4);
        dueRow(x, 0, 0, 0, 0, 1, 2);
        dueRow(x, 0, 1, 1, 0, 1, 2);
        due("mend(0) again", x.mend(0), REFUSED);
        dueRow(x, 1, 0, 1);
        x.share(0);
        x.share(1);
        settle(x, 2);
        due("the way is back", x.distance(2, 0), 7);
    }

    private static void promise5() {
        RouterNet x = new RouterNet(5);
        due("share(0), not laid", x.share(0), REFUSED);
        x.lay(0, 1, 1, 8);
        for (int w : WILD) {
            due("share(" + w + ")", x.share(w), REFUSED);
        }
        due("share(1), not laid", x.share(1), REFUSED);
        due("waiting", x.waiting(0, 0), 2);
        due("share(0)", x.share(0), 0);
        dueRow(x, 0, 0, 0, 0, 0);
        x.take(0, 1);
        x.lose(0, 1);
        x.lose(0, 1);
        x.share(0);
        dueRow(x, 0, 0, 0, 1);
        dueRow(x, 0, 1, 1);
        for (int i = 0; i < 9; i++) {
            x.share(0);
        }
        due("waiting after 9 shares", x.waiting(0, 0), 18);
        x.share(0);
        due("20 wait", x.waiting(0, 0), 20);
        x.share(0);
        due("no more than 20 wait", x.waiting(0, 0), 20);
        x.announce(0, 0, 0);
        for (int i = 0; i < 20; i++) {
            due("row of 20, no. " + i, x.take(0, 0), i % 2);
        }
        due("what came as the 21st is lost", x.held(1, 0), 1);
        due("20 waited", x.waiting(0, 0), 0);
        x.announce(0, 0, 8);
        due("the row works on", x.take(0, 0), 0);
        due("and brings the newest", x.held(1, 0), 3);
        x.cut(0);
        due("share(0), down", x.share(0), REFUSED);
    }

    private static void promise6() {
        RouterNet x = new RouterNet(5);
        x.lay(0, 1, 1, 8);
        for (int w : WILD) {
            due("wild router", x.announce(w, 0, 0), REFUSED);
            due("wild bits", x.announce(0, w, 0), REFUSED);
            due("wild length", x.announce(0, 0, w), REFUSED);
        }
        due("announce(8, 0, 0)", x.announce(8, 0, 0), REFUSED);
        due("announce(0, 256, 8)", x.announce(0, 256, 8), REFUSED);
        due("announce(0, 0, 9)", x.announce(0, 0, 9), REFUSED);
        due("nobody told", x.held(0, 0), 1);
        due("announce(0, 255, 3)", x.announce(0, 255, 3), 1);
        due("0 told", x.held(0, 0), 2);
        due("sent", x.waiting(0, 0), 3);
        due("same after the lower bits are 0", x.announce(0, 224, 3), REFUSED);
        due("same", x.announce(0, 233, 3), REFUSED);
        due("nobody told", x.held(0, 0), 2);
        due("same bits, other length", x.announce(0, 224, 4), 2);
        due("a third", x.announce(0, 128, 3), 3);
        due("a fourth", x.announce(0, 0, 8), FULL);
        due("three, and the same", x.announce(0, 255, 3), REFUSED);
        due("three, and a wrong length", x.announce(0, 0, 9), REFUSED);
        due("nobody told", x.held(0, 0), 4);
        due("another router may have the same", x.announce(1, 255, 3), 1);
        due("a router without links", x.announce(7, 255, 8), 1);
        due("it told", x.held(7, 7), 1);
        due("it holds 255", x.route(7, 255), HERE);
        due("and not 254", x.route(7, 254), NONE);
        for (int length = 0; length <= 8; length++) {
            RouterNet y = new RouterNet(1);
            y.announce(3, 0xAB, length);
            for (int address = 0; address < 256; address++) {
                boolean in = address >> (8 - length) == 0xAB >> (8 - length);
                due("length " + length + ", address " + address, y.route(3, address), in ? HERE : NONE);
            }
        }
    }

    private static void promise7() {
        RouterNet x = new RouterNet(5);
        x.announce(2, 0x10, 4);
        x.announce(2, 0x20, 4);
        x.announce(2, 0x30, 4);
        for (int w : WILD) {
            due("wild router", x.withdraw(w, 0), REFUSED);
            due("wild k", x.withdraw(2, w), REFUSED);
        }
        due("withdraw(2, 3)", x.withdraw(2, 3), REFUSED);
        due("withdraw(8, 0)", x.withdraw(8, 0), REFUSED);
        due("nobody told", x.held(2, 2), 3);
        due("withdraw(2, 0)", x.withdraw(2, 0), 2);
        due("it told", x.held(2, 2), 4);
        due("gone", x.route(2, 0x10), NONE);
        due("moved up", x.route(2, 0x20), HERE);
        due("withdraw(2, 2)", x.withdraw(2, 2), REFUSED);
        due("withdraw(2, 1), the third of old", x.withdraw(2, 1), 1);
        due("the third is gone", x.route(2, 0x30), NONE);
        due("the second is not", x.route(2, 0x20), HERE);
        due("it may come again", x.announce(2, 0x10, 4), 2);
        due("behind the other one", x.withdraw(2, 0), 1);
        due("0x20 is gone", x.route(2, 0x20), NONE);
        due("0x10 is not", x.route(2, 0x10), HERE);
        due("the last", x.withdraw(2, 0), 0);
        due("none is left", x.withdraw(2, 0), REFUSED);
        x = pair(5, 8);
        x.withdraw(1, 0);
        due("an advert on its way keeps its prefixes", x.route(0, 9), 0);
        x.take(0, 1);
        due("the new one has none", x.route(0, 9), NONE);
    }

    private static void promise8() {
        RouterNet x = new RouterNet(5);
        due("take(0, 0), not laid", x.take(0, 0), REFUSED);
        x.lay(0, 1, 1, 8);
        x.lay(1, 2, 1, 8);
        x.lay(2, 1, 1, 8);
        x.lay(1, 3, 1, 8);
        for (int w : WILD) {
            due("wild link", x.take(w, 0), REFUSED);
            due("wild direction", x.take(0, w), REFUSED);
        }
        due("take(0, 2)", x.take(0, 2), REFUSED);
        due("take(4, 0)", x.take(4, 0), REFUSED);
        int[] start = {x.waiting(0, 1), x.waiting(1, 0), x.waiting(2, 1), x.waiting(3, 0)};
        due("take(0, 0)", x.take(0, 0), 0);
        due("1 holds it", x.held(1, 0), 1);
        due("not back where it came from", x.waiting(0, 1), start[0]);
        due("over link 1", x.waiting(1, 0), start[1] + 1);
        due("over link 2, which it ends", x.waiting(2, 1), start[2] + 1);
        due("over link 3", x.waiting(3, 0), start[3] + 1);
        due("the same number", x.take(0, 0), 0);
        due("nothing is sent on", x.waiting(3, 0), start[3] + 1);
        due("nor back", x.waiting(0, 1), start[0]);
        due("none waits", x.take(0, 0), REFUSED);

        RouterNet y = new RouterNet(5);
        y.lay(0, 1, 1, 8);
        y.lay(0, 1, 1, 8);
        y.announce(0, 0, 0);
        due("waiting on link 0: 1 1 2 3", y.waiting(0, 0), 4);
        for (int i = 0; i < 3; i++) {
            due("link 1: 2 2 3", y.take(1, 0), 0);
        }
        due("1 holds the newest", y.held(1, 0), 3);
        int back = y.waiting(0, 1);
        int other = y.waiting(1, 1);
        due("an older one over link 0", y.take(0, 0), 0);
        due("the newest is kept", y.held(1, 0), 3);
        due("and sent back over link 0", y.waiting(0, 1), back + 1);
        due("and not over link 1", y.waiting(1, 1), other);
        for (int i = 0; i < back; i++) {
            y.lose(0, 1);
        }
        due("what was sent back is of origin 0", y.take(0, 1), 0);

        RouterNet z = new RouterNet(5);
        z.lay(0, 1, 1, 8);
        z.lay(1, 2, 1, 8);
        z.cut(1);
        z.take(0, 0);
        due("not sent on over a link that is down", z.waiting(1, 0), 0);
    }

    private static void promise9() {
        RouterNet x = new RouterNet(5);
        due("lose(0, 0), not laid", x.lose(0, 0), REFUSED);
        x.lay(3, 5, 1, 8);
        for (int w : WILD) {
            due("wild link", x.lose(w, 0), REFUSED);
            due("wild direction", x.lose(0, w), REFUSED);
        }
        due("lose(0, 2)", x.lose(0, 2), REFUSED);
        due("lose(0, 0)", x.lose(0, 0), 3);
        due("lose(0, 1)", x.lose(0, 1), 5);
        due("waiting(0, 0)", x.waiting(0, 0), 1);
        due("waiting(0, 1)", x.waiting(0, 1), 1);
        due("nobody took it", x.held(5, 3), 0);
        x.announce(3, 0, 0);
        due("the oldest is lost", x.lose(0, 0), 3);
        due("the newest is left", x.take(0, 0), 3);
        due("held(5, 3)", x.held(5, 3), 2);
        due("none waits", x.lose(0, 0), REFUSED);
    }

    private static void promise10() {
        RouterNet x = new RouterNet(7);
        for (int w : WILD) {
            due("wild router", x.send(w, 0, 1, false), REFUSED);
            due("wild address", x.send(0, w, 1, false), REFUSED);
            due("wild length", x.send(0, 0, w, false), REFUSED);
        }
        due("send(8, 0, 1)", x.send(8, 0, 1, false), REFUSED);
        due("send(0, 256, 1)", x.send(0, 256, 1, false), REFUSED);
        due("send(0, 0, 0)", x.send(0, 0, 0, false), REFUSED);
        due("send(0, 0, 501)", x.send(0, 0, 501, true), REFUSED);
        due("send(7, 255, 500)", x.send(7, 255, 500, true), 1);
        duePiece(x, 1, 1, 0, 500, 7, 7, 0);
        due("copy(1)", x.copy(1), 2);
        due("send(0, 0, 1)", x.send(0, 0, 1, false), 2);
        duePiece(x, 3, 2, 0, 1, 7, 0, 0);
        for (int i = 3; i <= 12; i++) {
            due("send no. " + i, x.send(0, 0, 1, false), i);
        }
        due("a 13th packet", x.send(0, 0, 1, false), FULL);
        due("a 13th packet, wrong length", x.send(0, 0, 0, false), REFUSED);
        due("no piece was made", x.piece(14, 0), REFUSED);
        RouterNet y = new RouterNet(7);
        y.send(0, 0, 1, false);
        for (int i = 2; i <= 80; i++) {
            y.copy(1);
        }
        due("80 pieces", y.send(0, 0, 1, false), FULL);
        due("80 pieces, wrong router", y.send(8, 0, 1, false), REFUSED);
        due("no packet was made", y.ended(2, 0), REFUSED);
    }

    private static void goEndsAndExpires() {
        RouterNet x = pair(1, 100);
        for (int w : WILD) {
            due("go(" + w + ")", x.go(w), REFUSED);
        }
        due("go(0)", x.go(0), REFUSED);
        due("go(1), not made", x.go(1), REFUSED);
        x.send(0, 9, 100, true);
        due("as wide as the link", x.go(1), 0);
        duePiece(x, 1, 1, 0, 100, 0, 1, 0);
        due("HERE comes before LIFE 0", x.go(1), 1);
        duePiece(x, 1, 1, 0, 100, 0, 1, 1);
        due("it has ended", x.go(1), REFUSED);
        due("ended(1, 1)", x.ended(1, 1), 100);
        x.send(0, 9, 10, false);
        x.go(2);
        x.withdraw(1, 0);
        due("LIFE 0 comes before NONE", x.go(2), 3);
        duePiece(x, 2, 2, 0, 10, 0, 1, 3);
        due("it has expired", x.go(2), REFUSED);
        x.send(1, 9, 10, false);
        due("NONE", x.go(3), 2);
        duePiece(x, 3, 3, 0, 10, 1, 1, 2);
        due("it is dropped", x.go(3), REFUSED);

        RouterNet y = new RouterNet(1);
        y.lay(0, 1, 1, 100);
        y.lay(1, 2, 1, 8);
        y.announce(2, 0, 0);
        settle(y, 2);
        y.send(0, 0, 50, true);
        due("go", y.go(1), 0);
        due("LIFE 0 comes before TOO_WIDE", y.go(1), 3);
        y.send(1, 0, 9, true);
        due("TOO_WIDE", y.go(2), 4);
        duePiece(y, 2, 2, 0, 9, 1, 1, 4);
        due("it is dropped", y.go(2), REFUSED);
        due("no piece was made", y.piece(3, 0), REFUSED);
        y.send(1, 0, 8, true);
        due("whole and not too wide", y.go(3), 0);
    }

    private static void goSplits() {
        RouterNet x = pair(4, 23);
        x.send(0, 7, 23, false);
        due("23 bytes over a width of 23", x.go(1), 0);
        duePiece(x, 1, 1, 0, 23, 3, 1, 0);
        x.send(0, 7, 24, false);
        due("24 bytes", x.go(2), 0);
        duePiece(x, 2, 2, 0, 16, 3, 1, 0);
        duePiece(x, 3, 2, 16, 8, 3, 1, 0);
        x.send(0, 7, 33, false);
        due("33 bytes", x.go(4), 0);
        duePiece(x, 4, 3, 0, 16, 3, 1, 0);
        duePiece(x, 5, 3, 16, 16, 3, 1, 0);
        duePiece(x, 6, 3, 32, 1, 3, 1, 0);
        x.send(0, 7, 32, false);
        x.go(7);
        duePiece(x, 8, 4, 16, 16, 3, 1, 0);
        due("two pieces of 16 are all", x.piece(9, 0), REFUSED);

        RouterNet y = new RouterNet(9);
        y.lay(0, 1, 1, 47);
        y.lay(2, 1, 1, 16);
        y.announce(2, 0, 0);
        settle(y, 2);
        y.send(0, 7, 100, false);
        y.go(1);
        duePiece(y, 2, 1, 40, 40, 8, 1, 0);
        duePiece(y, 3, 1, 80, 20, 8, 1, 0);
        due("a later piece is split again", y.go(2), 0);
        duePiece(y, 2, 1, 40, 16, 7, 2, 0);
        duePiece(y, 4, 1, 56, 16, 7, 2, 0);
        duePiece(y, 5, 1, 72, 8, 7, 2, 0);
        due("go(4)", y.go(4), 1);
        due("ended(1, 2)", y.ended(1, 2), 16);
        due("byte 55", y.arrived(1, 2, 55), false);
        due("byte 56", y.arrived(1, 2, 56), true);
        due("byte 71", y.arrived(1, 2, 71), true);
        due("byte 72", y.arrived(1, 2, 72), false);
    }

    private static void goFull() {
        RouterNet x = pair(4, 8);
        x.send(0, 0, 500, false);
        x.send(0, 0, 145, false);
        x.go(1);
        due("64 pieces", x.piece(64, 2), 4);
        due("145 bytes: 18 more", x.go(2), FULL);
        duePiece(x, 2, 2, 0, 145, 4, 0, 0);
        due("nothing was made", x.piece(65, 0), REFUSED);
        x = pair(4, 8);
        x.send(0, 0, 500, false);
        x.send(0, 0, 136, false);
        x.send(0, 0, 9, true);
        x.go(1);
        due("136 bytes: 16 more make 81", x.go(2), FULL);
        due("it still moves", x.piece(2, 5), 0);
        x = pair(4, 8);
        x.send(0, 0, 500, false);
        x.send(0, 0, 136, false);
        x.go(1);
        due("136 bytes: 16 more make 80", x.go(2), 0);
        duePiece(x, 80, 2, 128, 8, 3, 1, 0);
        due("no more packet", x.send(0, 0, 1, false), FULL);
        x = pair(4, 8);
        x.send(0, 0, 9, true);
        x.send(0, 0, 9, false);
        for (int i = 3; i <= 80; i++) {
            x.copy(1);
        }
        due("TOO_WIDE comes before FULL", x.go(1), 4);
        due("a split with 80 pieces", x.go(2), FULL);
    }

    private static void promise11() {
        goEndsAndExpires();
        goSplits();
        goFull();
    }

    private static void promise12() {
        RouterNet x = new RouterNet(5);
        due("drop(1), not made", x.drop(1), REFUSED);
        x.send(3, 0, 10, false);
        for (int w : WILD) {
            due("drop(" + w + ")", x.drop(w), REFUSED);
        }
        due("drop(0)", x.drop(0), REFUSED);
        due("drop(2)", x.drop(2), REFUSED);
        due("drop(1)", x.drop(1), 0);
        duePiece(x, 1, 1, 0, 10, 5, 3, 5);
        due("drop(1) again", x.drop(1), REFUSED);
        due("go(1)", x.go(1), REFUSED);
        due("copy(1)", x.copy(1), REFUSED);
        x.announce(3, 0, 0);
        x.send(3, 0, 10, false);
        x.go(2);
        due("drop of an ended one", x.drop(2), REFUSED);
        due("it stays ended", x.piece(2, 5), 1);
    }

    private static void promise13() {
        RouterNet x = pair(6, 20);
        due("copy(1), not made", x.copy(1), REFUSED);
        x.send(0, 50, 30, false);
        for (int w : WILD) {
            due("copy(" + w + ")", x.copy(w), REFUSED);
        }
        due("copy(0)", x.copy(0), REFUSED);
        due("copy(2)", x.copy(2), REFUSED);
        x.go(1);
        due("copy(2)", x.copy(2), 3);
        duePiece(x, 3, 1, 16, 14, 5, 1, 0);
        due("go(3)", x.go(3), 1);
        due("the model still moves", x.piece(2, 5), 0);
        due("copy of an ended one", x.copy(3), REFUSED);
        due("go(2)", x.go(2), 1);
        due("the same bytes count once", x.ended(1, 1), 14);
        for (int i = 4; i <= 80; i++) {
            due("copy no. " + i, x.copy(1), i);
        }
        due("81st", x.copy(1), FULL);
        due("81st of an ended one", x.copy(3), REFUSED);
        due("81st of one that is not", x.copy(81), REFUSED);
    }

    private static void promise14() {
        RouterNet x = new RouterNet(5);
        x.lay(0, 1, 2, 8);
        x.lay(0, 2, 1, 8);
        x.lay(2, 1, 1, 8);
        x.lay(0, 3, 1, 8);
        x.announce(1, 0x40, 2);
        x.announce(3, 0x40, 2);
        x.announce(2, 0x60, 3);
        x.announce(0, 0x70, 4);
        settle(x, 4);
        for (int w : WILD) {
            due("wild router", x.route(w, 0), REFUSED);
            due("wild address", x.route(0, w), REFUSED);
        }
        due("route(8, 0)", x.route(8, 0), REFUSED);
        due("route(0, 256)", x.route(0, 256), REFUSED);
        due("the nearer END: 3", x.route(0, 0x41), 3);
        due("the END itself is nearest", x.route(1, 0x41), HERE);
        due("the longest prefix, not the nearest", x.route(3, 0x61), 3);
        due("the longest, at 2", x.route(2, 0x61), HERE);
        due("the longest is 0's", x.route(0, 0x75), HERE);
        due("two ways of 1 to 0: the least link", x.route(1, 0x75), 0);
        due("none", x.route(0, 0x80), NONE);
        due("a router that knows nothing", x.route(6, 0x41), NONE);
        x.cut(3);
        settle(x, 4);
        due("3 is out of reach: two ways to 1, the least link", x.route(0, 0x41), 0);
        due("3 has its own", x.route(3, 0x41), HERE);
        due("3 has no way to 2, and its own shorter prefix", x.route(3, 0x61), HERE);
        due("3 has no way to 0 either", x.route(3, 0x75), HERE);
        due("3 has neither a way nor a prefix", x.route(3, 0x80), NONE);

        RouterNet y = new RouterNet(5);
        y.lay(3, 5, 7, 8);
        y.lay(4, 3, 7, 8);
        y.announce(5, 0, 1);
        y.announce(4, 0, 1);
        settle(y, 2);
        due("equally far: the END with the least number", y.route(3, 1), 1);
        y.lay(3, 4, 7, 8);
        settle(y, 3);
        due("equal links: the least number", y.route(3, 1), 1);
        y.lay(4, 3, 6, 8);
        settle(y, 4);
        due("the cheaper link", y.route(3, 1), 3);
        y.cut(3);
        due("3 itself knows at once", y.route(3, 1), 1);

        RouterNet z = new RouterNet(5);
        z.lay(0, 1, 1, 8);
        z.announce(1, 0, 0);
        z.lose(0, 1);
        z.lose(0, 1);
        due("the advert is on its way", z.route(0, 5), NONE);
        z.take(0, 1);
        due("it has come", z.route(0, 5), 0);
    }

    private static void promise15() {
        RouterNet x = new RouterNet(5);
        x.lay(0, 1, 10, 8);
        x.lay(1, 2, 10, 8);
        x.lay(0, 2, 21, 8);
        x.lay(2, 3, 50, 8);
        for (int w : WILD) {
            due("wild router", x.distance(w, 0), REFUSED);
            due("wild other", x.distance(0, w), REFUSED);
        }
        due("distance(8, 8)", x.distance(8, 8), REFUSED);
        due("no advert yet", x.distance(0, 1), NONE);
        due("itself", x.distance(6, 6), 0);
        settle(x, 4);
        due("over 1", x.distance(0, 2), 20);
        due("distance(3, 0)", x.distance(3, 0), 70);
        due("distance(0, 3)", x.distance(0, 3), 70);
        due("not joined", x.distance(0, 7), NONE);
        x.cut(1);
        due("0 does not know", x.distance(0, 2), 20);
        due("1 does, and so does its advert of 2", x.distance(1, 2), 31);
        settle(x, 4);
        due("0 knows", x.distance(0, 2), 21);
        due("1 too", x.distance(1, 2), 31);

        RouterNet line = new RouterNet(5);
        for (int i = 7; i > 0; i--) {
            line.lay(i, i - 1, 50, 8);
        }
        settle(line, 7);
        due("the longest way", line.distance(0, 7), 350);
        due("and back", line.distance(7, 0), 350);

        RouterNet y = new RouterNet(5);
        y.lay(0, 1, 5, 8);
        y.lay(0, 1, 3, 8);
        y.lose(0, 1);
        y.lose(0, 1);
        y.lose(0, 1);
        due("the advert of 1 before link 1 is not held", y.distance(0, 1), NONE);
        y.take(1, 1);
        due("the cheaper link", y.distance(0, 1), 3);

        RouterNet z = new RouterNet(5);
        z.lay(0, 1, 5, 8);
        z.take(0, 1);
        z.lay(0, 1, 3, 8);
        due("link 1 is in one advert only", z.distance(0, 1), 5);
    }

    private static void promise16() {
        RouterNet x = new RouterNet(5);
        for (int w : WILD) {
            due("wild router", x.held(w, 0), REFUSED);
            due("wild origin", x.held(0, w), REFUSED);
        }
        due("held(8, 0)", x.held(8, 0), REFUSED);
        due("held(0, 8)", x.held(0, 8), REFUSED);
        x.announce(4, 1, 8);
        due("the first number", x.held(4, 4), 1);
        x.announce(4, 2, 8);
        x.withdraw(4, 0);
        due("the third", x.held(4, 4), 3);
        x.lay(4, 6, 1, 8);
        due("the fourth", x.held(4, 4), 4);
        due("6's first", x.held(6, 6), 1);
        due("not taken yet", x.held(6, 4), 0);
        x.take(0, 0);
        due("taken", x.held(6, 4), 4);
        due("the other way not", x.held(4, 6), 0);
    }

    private static void promise17() {
        RouterNet x = new RouterNet(5);
        due("waiting(0, 0), not laid", x.waiting(0, 0), REFUSED);
        x.lay(0, 1, 1, 8);
        for (int w : WILD) {
            due("wild link", x.waiting(w, 0), REFUSED);
            due("wild direction", x.waiting(0, w), REFUSED);
        }
        due("waiting(0, 2)", x.waiting(0, 2), REFUSED);
        due("waiting(1, 0)", x.waiting(1, 0), REFUSED);
        x.announce(1, 0, 0);
        due("toward the second", x.waiting(0, 0), 2);
        due("toward the first", x.waiting(0, 1), 3);
        x.take(0, 0);
        due("one less", x.waiting(0, 0), 1);
        for (int i = 0; i < 30; i++) {
            x.share(0);
        }
        due("at most 20", x.waiting(0, 0), 20);
        x.cut(0);
        due("down: none", x.waiting(0, 0), 0);
    }

    private static void promise18() {
        RouterNet x = pair(3, 17);
        due("piece(1, 0), not made", x.piece(1, 0), REFUSED);
        x.send(0, 1, 2, true);
        x.send(0, 1, 20, false);
        x.go(2);
        duePiece(x, 1, 1, 0, 2, 3, 0, 0);
        duePiece(x, 3, 2, 16, 4, 2, 1, 0);
        for (int w : WILD) {
            due("wild piece", x.piece(w, 0), REFUSED);
            due("wild what", x.piece(1, w), REFUSED);
        }
        due("piece(0, 0)", x.piece(0, 0), REFUSED);
        due("piece(4, 0)", x.piece(4, 0), REFUSED);
        due("piece(1, 6)", x.piece(1, 6), REFUSED);
        x.go(3);
        due("ended", x.piece(3, 5), 1);
        due("LIFE stays", x.piece(3, 3), 2);
    }

    private static void promise19() {
        RouterNet x = pair(3, 255);
        due("ended(1, 0), not sent", x.ended(1, 0), REFUSED);
        x.send(0, 1, 65, false);
        for (int w : WILD) {
            due("wild packet", x.ended(w, 0), REFUSED);
            due("wild router", x.ended(1, w), REFUSED);
        }
        due("ended(0, 0)", x.ended(0, 0), REFUSED);
        due("ended(2, 0)", x.ended(2, 0), REFUSED);
        due("ended(1, 8)", x.ended(1, 8), REFUSED);
        due("ended(1, 1) before", x.ended(1, 1), 0);
        x.copy(1);
        x.go(1);
        x.go(1);
        due("ended(1, 1)", x.ended(1, 1), 65);
        due("ended(1, 0)", x.ended(1, 0), 0);
        x.announce(0, 0, 8);
        x.announce(0, 1, 8);
        due("a copy ends elsewhere", x.go(2), 1);
        due("ended(1, 0) now", x.ended(1, 0), 65);
        due("ended(1, 1) as it was", x.ended(1, 1), 65);
        x.send(1, 77, 500, false);
        due("500 bytes where they began", x.go(3), 1);
        due("ended(2, 1)", x.ended(2, 1), 500);
        due("the first packet as it was", x.ended(1, 1), 65);
    }

    private static void promise20() {
        RouterNet x = pair(3, 16);
        due("arrived, not sent", x.arrived(1, 0, 0), false);
        x.send(0, 1, 500, false);
        x.go(1);
        x.go(5);
        x.go(32);
        // Not all 500 bytes: the document speaks of 512 calls on an object.
        for (int i = 0; i < 500; i += i == 200 ? 200 : 1) {
            boolean in = i >= 64 && i < 80 || i >= 496;
            due("arrived(1, 1, " + i + ")", x.arrived(1, 1, i), in);
        }
        due("not at 0", x.arrived(1, 0, 64), false);
        due("not at 2", x.arrived(1, 2, 64), false);
        due("byte 500", x.arrived(1, 1, 500), false);
        due("byte -1", x.arrived(1, 2, -1), false);
        for (int w : WILD) {
            due("wild packet", x.arrived(w, 1, 64), false);
            due("wild router", x.arrived(1, w, 64), false);
            due("wild byte", x.arrived(1, 1, w), false);
        }
        due("arrived(0, 1, 64)", x.arrived(0, 1, 64), false);
        due("arrived(2, 1, 64)", x.arrived(2, 1, 64), false);
        due("arrived(1, 8, 64)", x.arrived(1, 8, 64), false);
        x.send(1, 1, 64, false);
        x.go(33);
        due("its first byte", x.arrived(2, 1, 0), true);
        due("its last byte", x.arrived(2, 1, 63), true);
        due("behind its last byte", x.arrived(2, 1, 64), false);
        due("of the other packet", x.arrived(1, 1, 63), false);
    }

    private static void run(int number) {
        promise = number;
        switch (number) {
            case 1 -> promise1();
            case 2 -> promise2();
            case 3 -> promise3();
            case 4 -> promise4();
            case 5 -> promise5();
            case 6 -> promise6();
            case 7 -> promise7();
            case 8 -> promise8();
            case 9 -> promise9();
            case 10 -> promise10();
            case 11 -> promise11();
            case 12 -> promise12();
            case 13 -> promise13();
            case 14 -> promise14();
            case 15 -> promise15();
            case 16 -> promise16();
            case 17 -> promise17();
            case 18 -> promise18();
            case 19 -> promise19();
            default -> promise20();
        }
    }

    public static void main(String[] args) {
        for (int number = 1; number <= 20; number++) {
            run(number);
        }
        System.out.println(wrong == 0 ? "all answers are as due" : wrong + " answers are not as due");
        if (wrong != 0) {
            System.exit(1);
        }
    }
}
