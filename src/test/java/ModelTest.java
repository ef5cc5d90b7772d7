import java.lang.reflect.Method;
import java.util.ArrayList;
import java.util.Arrays;
import java.util.HashSet;
import java.util.LinkedList;
import java.util.List;
import java.util.Random;
import java.util.Set;
import java.util.TreeMap;
import java.util.TreeSet;

/** Runs of calls from fixed seeds, each answer against a second reading of the document that is as plain as can be. */
public final class ModelTest {
    private static final int RUNS = 1500;
    private static final int CALLS = 512;
    private static final int REFUSED = -1;
    private static final int FULL = -2;
    private static final int NONE = -3;
    private static final int HERE = -4;
    private static final String[] NAMES = {"lay", "cut", "mend", "share", "announce", "withdraw", "take", "lose", "send",
        "go", "drop", "copy", "route", "distance", "held", "waiting", "piece", "ended", "arrived"};
    /** How often each call comes, by the order of NAMES: at first the net grows, then all sorts of calls come. */
    private static final int[] GROWING = {10, 1, 1, 2, 10, 1, 60, 1, 0, 0, 0, 0, 1, 1, 1, 1, 0, 0, 0};
    private static final int[] MIXED = {2, 3, 5, 4, 5, 3, 70, 4, 5, 30, 1, 6, 16, 10, 8, 8, 16, 8, 8};
    private static final int[] COPYING = {2, 1, 5, 4, 5, 3, 40, 4, 5, 20, 0, 60, 5, 5, 4, 4, 10, 5, 5};
    private static final int GROWTH = 120;
    /** How often each sort of answer came from each call: runs that never reach a case would prove nothing of it. */
    private static final TreeMap<String, Integer> SEEN = new TreeMap<>();

    private record Prefix(int bits, int length) {
        boolean holds(int address) {
            return length == 0 || address >> 8 - length == bits >> 8 - length;
        }
    }

    private record Advert(int origin, int number, Set<Integer> links, List<Prefix> prefixes) {
    }

    private static final class Link {
        int[] ends;
        int cost;
        int width;
        boolean up = true;
        List<LinkedList<Advert>> rows = List.of(new LinkedList<>(), new LinkedList<>());
    }

    private static final class Model {
        final int life;
        final List<Link> links = new ArrayList<>();
        final List<List<Prefix>> own = new ArrayList<>();
        final List<TreeMap<Integer, Advert>> held = new ArrayList<>();
        final int[] numbers = new int[8];
        /** Of each packet: address, length, 1 if it stays whole. */
        final List<int[]> packets = new ArrayList<>();
        /** Of each piece: what the call piece answers. */
        final List<int[]> pieces = new ArrayList<>();
        final Set<List<Integer>> ended = new HashSet<>();

        Model(int life) {
            this.life = life < 1 ? 1 : life > 12 ? 12 : life;
            for (int i = 0; i < 8; i++) {
                own.add(new ArrayList<>());
                held.add(new TreeMap<>());
            }
        }

        Set<Integer> upLinks(int router) {
            Set<Integer> found = new TreeSet<>();
            for (int i = 0; i < links.size(); i++) {
                Link link = links.get(i);
                if (link.up && (link.ends[0] == router || link.ends[1] == router)) {
                    found.add(i);
                }
            }
            return found;
        }

        void put(int router, int number, Advert advert) {
            Link link = links.get(number);
            List<Advert> row = link.rows.get(link.ends[0] == router ? 0 : 1);
            if (row.size() < 20) {
                row.add(advert);
            }
        }

        void tell(int router) {
            numbers[router]++;
            Set<Integer> up = upLinks(router);
            Advert advert = new Advert(router, numbers[router], up, List.copyOf(own.get(router)));
            held.get(router).put(router, advert);
            for (int link : up) {
                put(router, link, advert);
            }
        }

        int shareLink(int number) {
            for (int router : links.get(number).ends) {
                for (Advert advert : held.get(router).values()) {
                    put(router, number, advert);
                }
            }
            return 0;
        }

        int tellBothAndShare(int number) {
            tell(links.get(number).ends[0]);
            tell(links.get(number).ends[1]);
            shareLink(number);
            return 0;
        }

        int lay(int a, int b, int cost, int width) {
            if (a < 0 || a > 7 || b < 0 || b > 7 || a == b || cost < 1 || cost > 50 || width < 8 || width > 255) {
                return REFUSED;
            }
            if (links.size() == 12) {
                return FULL;
            }
            Link link = new Link();
            link.ends = new int[] {a, b};
            link.cost = cost;
            link.width = width;
            links.add(link);
            tellBothAndShare(links.size() - 1);
            return links.size() - 1;
        }

        boolean isUp(int link, boolean up) {
            return link >= 0 && link < links.size() && links.get(link).up == up;
        }

        int cut(int number) {
            if (!isUp(number, true)) {
                return REFUSED;
            }
            Link link = links.get(number);
            link.up = false;
            link.rows.get(0).clear();
            link.rows.get(1).clear();
            tell(link.ends[0]);
            tell(link.ends[1]);
            return 0;
        }

        int mend(int number) {
            if (!isUp(number, false)) {
                return REFUSED;
            }
            links.get(number).up = true;
            return tellBothAndShare(number);
        }

        int share(int number) {
            return isUp(number, true) ? shareLink(number) : REFUSED;
        }

        int announce(int router, int bits, int length) {
            if (router < 0 || router > 7 || bits < 0 || bits > 255 || length < 0 || length > 8) {
                return REFUSED;
            }
            int step = 1 << 8 - length;
            Prefix prefix = new Prefix(bits / step * step, length);
            if (own.get(router).contains(prefix)) {
                return REFUSED;
            }
            if (own.get(router).size() == 3) {
                return FULL;
            }
            own.get(router).add(prefix);
            tell(router);
            return own.get(router).size();
        }

        int withdraw(int router, int k) {
            if (router < 0 || router > 7 || k < 0 || k >= own.get(router).size()) {
                return REFUSED;
            }
            own.get(router).remove(k);
            tell(router);
            return own.get(router).size();
        }

        LinkedList<Advert> row(int link, int direction) {
            boolean there = link >= 0 && link < links.size() && (direction == 0 || direction == 1);
            return there ? links.get(link).rows.get(direction) : null;
        }

        int take(int number, int direction) {
            LinkedList<Advert> row = row(number, direction);
            if (row == null || row.isEmpty()) {
                return REFUSED;
            }
            Advert advert = row.removeFirst();
            int router = links.get(number).ends[1 - direction];
            Advert old = held.get(router).get(advert.origin());
            int oldNumber = old == null ? 0 : old.number();
            if (oldNumber < advert.number()) {
                held.get(router).put(advert.origin(), advert);
                Set<Integer> others = upLinks(router);
                others.remove(number);
                for (int link : others) {
                    put(router, link, advert);
                }
            } else if (oldNumber > advert.number()) {
                put(router, number, old);
            }
            return advert.origin();
        }

        int lose(int number, int direction) {
            LinkedList<Advert> row = row(number, direction);
            return row == null || row.isEmpty() ? REFUSED : row.removeFirst().origin();
        }

        int waiting(int number, int direction) {
            LinkedList<Advert> row = row(number, direction);
            return row == null ? REFUSED : row.size();
        }

        boolean isGood(int router, int number) {
            int[] ends = links.get(number).ends;
            Advert one = held.get(router).get(ends[0]);
            Advert two = held.get(router).get(ends[1]);
            return one != null && two != null && one.links().contains(number) && two.links().contains(number);
        }

        /** The least way between every two routers as the one router sees it. */
        long[][] ways(int router) {
            long[][] way = new long[8][8];
            for (int i = 0; i < 8; i++) {
                Arrays.fill(way[i], Integer.MAX_VALUE);
                way[i][i] = 0;
            }
            for (int i = 0; i < links.size(); i++) {
                Link link = links.get(i);
                if (isGood(router, i)) {
                    int a = link.ends[0];
                    int b = link.ends[1];
                    way[a][b] = Math.min(way[a][b], link.cost);
                    way[b][a] = way[a][b];
                }
            }
            for (int k = 0; k < 8; k++) {
                for (int i = 0; i < 8; i++) {
                    for (int j = 0; j < 8; j++) {
                        way[i][j] = Math.min(way[i][j], way[i][k] + way[k][j]);
                    }
                }
            }
            return way;
        }

        int distance(int router, int other) {
            if (router < 0 || router > 7 || other < 0 || other > 7) {
                return REFUSED;
            }
            long way = ways(router)[router][other];
            return way == Integer.MAX_VALUE ? NONE : (int) way;
        }

        int end(int router, int address, long[][] way) {
            for (int length = 8; length >= 0; length--) {
                int best = NONE;
                for (Advert advert : held.get(router).values()) {
                    for (Prefix prefix : advert.prefixes()) {
                        long far = way[router][advert.origin()];
                        boolean fits = prefix.length() == length && prefix.holds(address) && far < Integer.MAX_VALUE;
                        if (fits && (best == NONE || far < way[router][best])) {
                            best = advert.origin();
                        }
                    }
                }
                if (best != NONE) {
                    return best;
                }
            }
            return NONE;
        }

        int route(int router, int address) {
            if (router < 0 || router > 7 || address < 0 || address > 255) {
                return REFUSED;
            }
            long[][] way = ways(router);
            int end = end(router, address, way);
            if (end == NONE || end == router) {
                return end == NONE ? NONE : HERE;
            }
            for (int i = 0; i < links.size(); i++) {
                Link link = links.get(i);
                for (int side = 0; side < 2; side++) {
                    boolean fits = isGood(router, i) && link.ends[side] == router;
                    if (fits && link.cost + way[link.ends[1 - side]][end] == way[router][end]) {
                        return i;
                    }
                }
            }
            throw new IllegalStateException("an END with a DISTANCE has a first link");
        }

        int held(int router, int origin) {
            if (router < 0 || router > 7 || origin < 0 || origin > 7) {
                return REFUSED;
            }
            Advert advert = held.get(router).get(origin);
            return advert == null ? 0 : advert.number();
        }

        int send(int router, int address, int length, boolean whole) {
            if (router < 0 || router > 7 || address < 0 || address > 255 || length < 1 || length > 500) {
                return REFUSED;
            }
            if (packets.size() == 12 || pieces.size() == 80) {
                return FULL;
            }
            packets.add(new int[] {address, length, whole ? 1 : 0});
            pieces.add(new int[] {packets.size(), 0, length, life, router, 0});
            return packets.size();
        }

        int[] movingPiece(int number) {
            boolean there = number >= 1 && number <= pieces.size();
            return there && pieces.get(number - 1)[5] == 0 ? pieces.get(number - 1) : null;
        }

        int go(int number) {
            int[] piece = movingPiece(number);
            if (piece == null) {
                return REFUSED;
            }
            int[] packet = packets.get(piece[0] - 1);
            int way = route(piece[4], packet[0]);
            if (way == HERE) {
                for (int i = piece[1]; i < piece[1] + piece[2]; i++) {
                    ended.add(List.of(piece[0], piece[4], i));
                }
                return piece[5] = 1;
            }
            if (piece[3] == 0) {
                return piece[5] = 3;
            }
            if (way == NONE) {
                return piece[5] = 2;
            }
            Link link = links.get(way);
            if (link.width < piece[2] && packet[2] == 1) {
                return piece[5] = 4;
            }
            return cross(piece, link);
        }

        int cross(int[] piece, Link link) {
            int there = link.ends[0] == piece[4] ? link.ends[1] : link.ends[0];
            List<int[]> added = new ArrayList<>();
            int keeps = piece[2];
            if (link.width < piece[2]) {
                keeps = link.width / 8 * 8;
                int at = piece[1] + keeps;
                int left = piece[2] - keeps;
                while (left > 0) {
                    int bytes = Math.min(keeps, left);
                    added.add(new int[] {piece[0], at, bytes, piece[3] - 1, there, 0});
                    at += bytes;
                    left -= bytes;
                }
            }
            if (pieces.size() + added.size() > 80) {
                return FULL;
            }
            piece[2] = keeps;
            piece[3]--;
            piece[4] = there;
            pieces.addAll(added);
            return 0;
        }

        int drop(int number) {
            int[] piece = movingPiece(number);
            if (piece == null) {
                return REFUSED;
            }
            piece[5] = 5;
            return 0;
        }

        int copy(int number) {
            int[] piece = movingPiece(number);
            if (piece == null) {
                return REFUSED;
            }
            if (pieces.size() == 80) {
                return FULL;
            }
            pieces.add(piece.clone());
            return pieces.size();
        }

        int piece(int number, int what) {
            boolean there = number >= 1 && number <= pieces.size() && what >= 0 && what <= 5;
            return there ? pieces.get(number - 1)[what] : REFUSED;
        }

        int ended(int packet, int router) {
            if (packet < 1 || packet > packets.size() || router < 0 || router > 7) {
                return REFUSED;
            }
            int count = 0;
            for (int i = 0; i < packets.get(packet - 1)[1]; i++) {
                count += ended.contains(List.of(packet, router, i)) ? 1 : 0;
            }
            return count;
        }

        boolean arrived(int packet, int router, int i) {
            return ended.contains(List.of(packet, router, i));
        }
    }

    /** Numbers for one run: mostly fitting ones, from few routers and links, so that they meet; at times wrong ones. */
    private static final class Dice {
        final Random random;
        final int routers;
        final int addressStep;
        final int mostCost;
        final int mostWidth;
        final int mostLength;
        final int[] later;

        Dice(long seed) {
            random = new Random(seed);
            routers = 2 + random.nextInt(7);
            addressStep = 1 << random.nextInt(7);
            mostCost = random.nextBoolean() ? 3 : 50;
            mostWidth = random.nextBoolean() ? 40 : 255;
            mostLength = random.nextBoolean() ? 60 : 500;
            later = random.nextInt(4) == 0 ? COPYING : MIXED;
        }

        int pick(int least, int most) {
            int chance = random.nextInt(150);
            if (chance == 0) {
                return random.nextBoolean() ? least - 1 : most + 1;
            }
            if (chance == 1) {
                return random.nextInt();
            }
            if (chance < 8) {
                return chance % 2 == 0 ? least : most;
            }
            return most <= least ? least : least + random.nextInt(most - least + 1);
        }

        int router() {
            return random.nextInt(10) == 0 ? pick(0, 7) : random.nextInt(routers);
        }

        int address() {
            return random.nextInt(3) == 0 ? pick(0, 255) : random.nextInt(4) * addressStep % 256;
        }

        /** Often one that some router has, for else hardly a packet would find a way. */
        int target(Model model) {
            List<Prefix> known = model.own.get(random.nextInt(routers));
            return known.isEmpty() || random.nextInt(4) == 0 ? address() : known.get(0).bits();
        }

        /** Often one that moves. */
        int piece(Model model) {
            int piece = pick(1, model.pieces.size());
            for (int tries = random.nextInt(20); tries > 0 && model.movingPiece(piece) == null; tries--) {
                piece = pick(1, model.pieces.size());
            }
            return piece;
        }

        /** Often a link and a direction with adverts that wait. */
        int[] row(Model model) {
            int[] row = {pick(0, model.links.size() - 1), pick(0, 1)};
            for (int tries = random.nextInt(12); tries > 0 && model.waiting(row[0], row[1]) < 1; tries--) {
                row = new int[] {pick(0, model.links.size() - 1), pick(0, 1)};
            }
            return row;
        }

        int call(int turn) {
            int[] weights = turn < GROWTH ? GROWING : later;
            int left = random.nextInt(Arrays.stream(weights).sum());
            for (int i = 0; i < weights.length; i++) {
                left -= weights[i];
                if (left < 0) {
                    return i;
                }
            }
            return 0;
        }

        int[] arguments(int call, Model model) {
            int link = pick(0, model.links.size() - 1);
            int piece = piece(model);
            int packet = pick(1, model.packets.size());
            switch (NAMES[call]) {
                case "lay":
                    return new int[] {router(), router(), pick(1, mostCost), pick(8, mostWidth)};
                case "cut": case "mend": case "share":
                    return new int[] {link};
                case "announce":
                    return new int[] {router(), address(), pick(0, 8)};
                case "withdraw":
                    return new int[] {router(), pick(0, 2)};
                case "take": case "lose": case "waiting":
                    return row(model);
                case "send":
                    return new int[] {router(), target(model), pick(1, mostLength), random.nextInt(4) == 0 ? 1 : 0};
                case "go": case "drop": case "copy":
                    return new int[] {piece};
                case "route":
                    return new int[] {router(), target(model)};
                case "distance": case "held":
                    return new int[] {router(), router()};
                case "piece":
                    return new int[] {piece, pick(0, 5)};
                case "ended":
                    return new int[] {packet, router()};
                default:
                    return new int[] {packet, router(), pick(0, 499)};
            }
        }
    }

    private static Method find(Class<?> type, String name) {
        for (Method method : type.getDeclaredMethods()) {
            if (method.getName().equals(name)) {
                return method;
            }
        }
        throw new IllegalStateException("no method " + name);
    }

    private static int ask(Object x, String name, int[] arguments) {
        Object[] boxed = new Object[arguments.length];
        for (int i = 0; i < arguments.length; i++) {
            boxed[i] = arguments[i];
        }
        if (name.equals("send")) {
            boxed[3] = arguments[3] == 1;
        }
        try {
            Object answer = find(x.getClass(), name).invoke(x, boxed);
            return answer instanceof Boolean yes ? yes ? 1 : 0 : (Integer) answer;
        } catch (ReflectiveOperationException e) {
            throw new IllegalStateException(name + Arrays.toString(arguments), e);
        }
    }

    private static boolean runAgrees(int seed) {
        Dice dice = new Dice(seed);
        int life = dice.pick(1, 12);
        RouterNet net = new RouterNet(life);
        Model model = new Model(life);
        for (int i = 0; i < CALLS; i++) {
            int call = dice.call(i);
            int[] arguments = dice.arguments(call, model);
            int want = ask(model, NAMES[call], arguments);
            int got = ask(net, NAMES[call], arguments);
            SEEN.merge(NAMES[call] + " " + Math.min(want, NAMES[call].equals("go") ? 9 : 0), 1, Integer::sum);
            if (got != want) {
                System.out.println("seed " + seed + ", call " + i + ": " + NAMES[call] + Arrays.toString(arguments)
                    + " answered " + got + ", due is " + want);
                return false;
            }
        }
        return true;
    }

    private static boolean sawAll() {
        boolean all = true;
        for (String name : NAMES) {
            for (int answer : new int[] {REFUSED, 0}) {
                all &= name.equals("arrived") || saw(name + " " + answer);
            }
        }
        for (String name : new String[] {"lay", "announce", "send", "copy", "go"}) {
            all &= saw(name + " " + FULL);
        }
        for (int state = 0; state <= 4; state++) {
            all &= saw("go " + state);
        }
        return all & saw("route " + HERE) & saw("route " + NONE) & saw("distance " + NONE) & saw("arrived 0");
    }

    private static boolean saw(String answer) {
        boolean enough = SEEN.getOrDefault(answer, 0) >= 50;
        if (!enough) {
            System.out.println("the runs hardly reach: " + answer);
        }
        return enough;
    }

    public static void main(String[] args) {
        int wrong = 0;
        for (int seed = 1; seed <= RUNS; seed++) {
            wrong += runAgrees(seed) ? 0 : 1;
        }
        boolean all = sawAll();
        System.out.println(wrong == 0 ? "all runs agree with the model" : wrong + " runs do not agree with the model");
        if (wrong != 0 || !all) {
            System.exit(1);
        }
    }
}
