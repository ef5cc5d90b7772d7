import java.util.Arrays;

/** An internetwork of routers: flooded adverts, least-cost routes, and packets that travel in pieces. */
public final class RouterNet {
    public static final int REFUSED = -1;
    public static final int FULL = -2;
    public static final int NONE = -3;
    public static final int HERE = -4;
    public static final int MOVING = 0;
    public static final int ENDED = 1;
    public static final int UNREACHABLE = 2;
    public static final int EXPIRED = 3;
    public static final int TOO_WIDE = 4;
    public static final int DROPPED = 5;

    private static final int ROUTERS = 8;
    private static final int ADDRESSES = 256;
    private static final int ADDRESS_BITS = 8;
    private static final int MOST_LIFE = 12;
    private static final int MOST_LINKS = 12;
    private static final int MOST_COST = 50;
    private static final int LEAST_WIDTH = 8;
    private static final int MOST_WIDTH = 255;
    private static final int MOST_OWN = 3;
    private static final int MOST_WAITING = 20;
    private static final int MOST_PACKETS = 12;
    private static final int MOST_LENGTH = 500;
    private static final int MOST_PIECES = 80;
    private static final int SPLIT_STEP = 8;
    private static final int NO_LINK = -1;

    private final int fullLife;
    private final Router[] routers = new Router[ROUTERS];
    private final Link[] links = new Link[MOST_LINKS];
    private final Packet[] packets = new Packet[MOST_PACKETS];
    private final Piece[] pieces = new Piece[MOST_PIECES];
    private final Chart chart = new Chart();
    private int laid;
    private int sent;
    private int made;

    public RouterNet(int life) {
        fullLife = Math.max(1, Math.min(MOST_LIFE, life));
        for (int i = 0; i < ROUTERS; i++) {
            routers[i] = new Router();
        }
    }

    public int lay(int a, int b, int cost, int width) {
        if (!isRouter(a) || !isRouter(b) || a == b) {
            return REFUSED;
        }
        if (!isWithin(cost, 1, MOST_COST) || !isWithin(width, LEAST_WIDTH, MOST_WIDTH)) {
            return REFUSED;
        }
        if (laid == MOST_LINKS) {
            return FULL;
        }
        links[laid] = new Link(a, b, cost, width);
        laid++;
        bringUp(links[laid - 1]);
        return laid - 1;
    }

    public int cut(int link) {
        if (!isLink(link) || !links[link].up) {
            return REFUSED;
        }
        Link broken = links[link];
        broken.up = false;
        broken.towardSecond.clear();
        broken.towardFirst.clear();
        tell(broken.first);
        tell(broken.second);
        return 0;
    }

    public int mend(int link) {
        if (!isLink(link) || links[link].up) {
            return REFUSED;
        }
        bringUp(links[link]);
        return 0;
    }

    public int share(int link) {
        if (!isLink(link) || !links[link].up) {
            return REFUSED;
        }
        exchange(links[link]);
        return 0;
    }

    public int announce(int router, int bits, int length) {
        if (!isRouter(router) || !isAddress(bits) || !isWithin(length, 0, ADDRESS_BITS)) {
            return REFUSED;
        }
        Router owner = routers[router];
        int prefix = Prefix.of(bits, length);
        if (owner.owns(prefix)) {
            return REFUSED;
        }
        if (owner.owned == MOST_OWN) {
            return FULL;
        }
        owner.own[owner.owned] = prefix;
        owner.owned++;
        tell(router);
        return owner.owned;
    }

    public int withdraw(int router, int k) {
        if (!isRouter(router) || !isWithin(k, 0, routers[router].owned - 1)) {
            return REFUSED;
        }
        routers[router].removeOwn(k);
        tell(router);
        return routers[router].owned;
    }

    public int take(int link, int direction) {
        if (!isLane(link, direction)) {
            return REFUSED;
        }
        Advert advert = links[link].lane(direction).removeOldest();
        if (advert == null) {
            return REFUSED;
        }
        receive(links[link].target(direction), link, advert);
        return advert.origin;
    }

    public int lose(int link, int direction) {
        if (!isLane(link, direction)) {
            return REFUSED;
        }
        Advert advert = links[link].lane(direction).removeOldest();
        return advert == null ? REFUSED : advert.origin;
    }

    public int send(int router, int address, int length, boolean whole) {
        if (!isRouter(router) || !isAddress(address) || !isWithin(length, 1, MOST_LENGTH)) {
            return REFUSED;
        }
        if (sent == MOST_PACKETS || made == MOST_PIECES) {
            return FULL;
        }
        packets[sent] = new Packet(address, whole);
        sent++;
        addPiece(new Piece(sent, 0, length, fullLife, router));
        return sent;
    }

    public int go(int piece) {
        if (!isMoving(piece)) {
            return REFUSED;
        }
        Piece mover = pieces[piece - 1];
        Packet packet = packets[mover.packet - 1];
        int way = findRoute(mover.router, packet.address);
        if (way == HERE) {
            packet.markEnded(mover.router, mover.start, mover.bytes);
            return settle(mover, ENDED);
        }
        if (mover.life == 0) {
            return settle(mover, EXPIRED);
        }
        if (way == NONE) {
            return settle(mover, UNREACHABLE);
        }
        if (links[way].width < mover.bytes && packet.whole) {
            return settle(mover, TOO_WIDE);
        }
        return cross(mover, links[way]);
    }

    public int drop(int piece) {
        if (!isMoving(piece)) {
            return REFUSED;
        }
        pieces[piece - 1].state = DROPPED;
        return 0;
    }

    public int copy(int piece) {
        if (!isMoving(piece)) {
            return REFUSED;
        }
        if (made == MOST_PIECES) {
            return FULL;
        }
        Piece model = pieces[piece - 1];
        addPiece(model.part(model.start, model.bytes));
        return made;
    }

    public int route(int router, int address) {
        if (!isRouter(router) || !isAddress(address)) {
            return REFUSED;
        }
        return findRoute(router, address);
    }

    public int distance(int router, int other) {
        if (!isRouter(router) || !isRouter(other)) {
            return REFUSED;
        }
        chart.survey(router, routers[router].adverts, links, laid);
        return chart.fromHere[other] == Chart.NO_WAY ? NONE : chart.fromHere[other];
    }

    public int held(int router, int origin) {
        if (!isRouter(router) || !isRouter(origin)) {
            return REFUSED;
        }
        Advert advert = routers[router].adverts[origin];
        return advert == null ? 0 : advert.number;
    }

    public int waiting(int link, int direction) {
        if (!isLane(link, direction)) {
            return REFUSED;
        }
        return links[link].lane(direction).count;
    }

    public int piece(int piece, int what) {
        if (!isPiece(piece)) {
            return REFUSED;
        }
        Piece asked = pieces[piece - 1];
        switch (what) {
            case 0:
                return asked.packet;
            case 1:
                return asked.start;
            case 2:
                return asked.bytes;
            case 3:
                return asked.life;
            case 4:
                return asked.router;
            case 5:
                return asked.state;
            default:
                return REFUSED;
        }
    }

    public int ended(int packet, int router) {
        if (!isPacket(packet) || !isRouter(router)) {
            return REFUSED;
        }
        return packets[packet - 1].countEnded(router);
    }

    public boolean arrived(int packet, int router, int i) {
        if (!isPacket(packet) || !isRouter(router) || !isWithin(i, 0, MOST_LENGTH - 1)) {
            return false;
        }
        return packets[packet - 1].hasEnded(router, i);
    }

    private static boolean isWithin(int value, int least, int most) {
        return value >= least && value <= most;
    }

    private static boolean isRouter(int router) {
        return isWithin(router, 0, ROUTERS - 1);
    }

    private static boolean isAddress(int address) {
        return isWithin(address, 0, ADDRESSES - 1);
    }

    private boolean isLink(int link) {
        return isWithin(link, 0, laid - 1);
    }

    private boolean isLane(int link, int direction) {
        return isLink(link) && isWithin(direction, 0, 1);
    }

    private boolean isPacket(int packet) {
        return isWithin(packet, 1, sent);
    }

    private boolean isPiece(int piece) {
        return isWithin(piece, 1, made);
    }

    private boolean isMoving(int piece) {
        return isPiece(piece) && pieces[piece - 1].state == MOVING;
    }

    private void bringUp(Link link) {
        link.up = true;
        tell(link.first);
        tell(link.second);
        exchange(link);
    }

    private void tell(int router) {
        Advert advert = routers[router].makeAdvert(router, upLinksOf(router));
        routers[router].adverts[router] = advert;
        flood(router, advert, NO_LINK);
    }

    private int upLinksOf(int router) {
        int set = 0;
        for (int i = 0; i < laid; i++) {
            if (links[i].up && links[i].touches(router)) {
                set |= 1 << i;
            }
        }
        return set;
    }

    private void flood(int router, Advert advert, int except) {
        for (int i = 0; i < laid; i++) {
            if (i != except && links[i].up && links[i].touches(router)) {
                links[i].laneFrom(router).put(advert);
            }
        }
    }

    private void exchange(Link link) {
        link.towardSecond.putAll(routers[link.first].adverts);
        link.towardFirst.putAll(routers[link.second].adverts);
    }

    private void receive(int router, int link, Advert advert) {
        Advert[] adverts = routers[router].adverts;
        Advert before = adverts[advert.origin];
        if (before == null || before.number < advert.number) {
            adverts[advert.origin] = advert;
            flood(router, advert, link);
        } else if (before.number > advert.number) {
            links[link].laneFrom(router).put(before);
        }
    }

    private int findRoute(int router, int address) {
        Advert[] adverts = routers[router].adverts;
        chart.survey(router, adverts, links, laid);
        int end = chart.findEnd(adverts, address);
        if (end == NONE) {
            return NONE;
        }
        return end == router ? HERE : chart.firstLinkToward(router, end, links, laid);
    }

    private static int settle(Piece piece, int state) {
        piece.state = state;
        return state;
    }

    private int cross(Piece mover, Link link) {
        // No link is narrower than SPLIT_STEP: the max only lets it be seen here that the divisor is not 0.
        int most = Math.max(SPLIT_STEP, link.width - link.width % SPLIT_STEP);
        int added = mover.bytes <= link.width ? 0 : (mover.bytes - 1) / most;
        if (made + added > MOST_PIECES) {
            return FULL;
        }
        mover.router = link.otherEnd(mover.router);
        mover.life--;
        if (added > 0) {
            split(mover, most, added);
        }
        return mover.state;
    }

    private void split(Piece mover, int most, int added) {
        int stop = mover.start + mover.bytes;
        for (int i = 1; i <= added; i++) {
            int start = mover.start + i * most;
            addPiece(mover.part(start, Math.min(most, stop - start)));
        }
        mover.bytes = most;
    }

    private void addPiece(Piece piece) {
        pieces[made] = piece;
        made++;
    }

    /** A prefix is kept as one int, so that two equal prefixes are equal numbers. */
    private static final class Prefix {
        static int of(int bits, int length) {
            return (length << ADDRESS_BITS) | (bits & mask(length));
        }

        static int lengthOf(int prefix) {
            return prefix >> ADDRESS_BITS;
        }

        static boolean covers(int prefix, int address) {
            return of(address, lengthOf(prefix)) == prefix;
        }

        private static int mask(int length) {
            return (ADDRESSES - 1) & ~((ADDRESSES - 1) >> length);
        }
    }

    /** What an origin told once; it never changes, so that many rows may hold the same one. */
    private static final class Advert {
        static final int NO_PREFIX = -1;

        final int origin;
        final int number;
        private final int linkSet;
        private final int[] prefixes;

        Advert(int origin, int number, int linkSet, int[] prefixes) {
            this.origin = origin;
            this.number = number;
            this.linkSet = linkSet;
            this.prefixes = prefixes;
        }

        boolean hasLink(int link) {
            return ((linkSet >> link) & 1) == 1;
        }

        int longestMatch(int address) {
            int longest = NO_PREFIX;
            for (int i = 0; i < prefixes.length; i++) {
                if (Prefix.covers(prefixes[i], address)) {
                    longest = Math.max(longest, Prefix.lengthOf(prefixes[i]));
                }
            }
            return longest;
        }
    }

    private static final class Router {
        final int[] own = new int[MOST_OWN];
        final Advert[] adverts = new Advert[ROUTERS];
        int owned;
        private int told;

        boolean owns(int prefix) {
            for (int i = 0; i < owned; i++) {
                if (own[i] == prefix) {
                    return true;
                }
            }
            return false;
        }

        void removeOwn(int k) {
            owned--;
            for (int i = k; i < owned; i++) {
                own[i] = own[i + 1];
            }
        }

        Advert makeAdvert(int origin, int linkSet) {
            told++;
            return new Advert(origin, told, linkSet, Arrays.copyOf(own, owned));
        }
    }

    /** The adverts that wait on a link in one direction: a ring, the oldest one at head. */
    private static final class Lane {
        private final Advert[] ring = new Advert[MOST_WAITING];
        private int head;
        int count;

        void put(Advert advert) {
            if (count < MOST_WAITING) {
                ring[(head + count) % MOST_WAITING] = advert;
                count++;
            }
        }

        void putAll(Advert[] adverts) {
            for (int i = 0; i < adverts.length; i++) {
                if (adverts[i] != null) {
                    put(adverts[i]);
                }
            }
        }

        Advert removeOldest() {
            if (count == 0) {
                return null;
            }
            Advert oldest = ring[head];
            head = (head + 1) % MOST_WAITING;
            count--;
            return oldest;
        }

        void clear() {
            count = 0;
        }
    }

    private static final class Link {
        final int first;
        final int second;
        final int cost;
        final int width;
        final Lane towardSecond = new Lane();
        final Lane towardFirst = new Lane();
        boolean up;

        Link(int first, int second, int cost, int width) {
            this.first = first;
            this.second = second;
            this.cost = cost;
            this.width = width;
        }

        boolean touches(int router) {
            return router == first || router == second;
        }

        int otherEnd(int router) {
            return router == first ? second : first;
        }

        int target(int direction) {
            return direction == 0 ? second : first;
        }

        Lane lane(int direction) {
            return direction == 0 ? towardSecond : towardFirst;
        }

        Lane laneFrom(int router) {
            return router == first ? towardSecond : towardFirst;
        }
    }

    /** The net as one router sees it by its adverts; worked out anew for each question, in the same rows. */
    private static final class Chart {
        // Far above 7 links of the dearest cost, and no sum with it comes near to overflow.
        static final int NO_WAY = 1000000;

        final int[] fromHere = new int[ROUTERS];
        private final int[] fromEnd = new int[ROUTERS];
        private final boolean[] good = new boolean[MOST_LINKS];

        void survey(int router, Advert[] adverts, Link[] links, int laid) {
            for (int i = 0; i < laid; i++) {
                Advert one = adverts[links[i].first];
                Advert other = adverts[links[i].second];
                good[i] = one != null && other != null && one.hasLink(i) && other.hasLink(i);
            }
            measure(router, fromHere, links, laid);
        }

        private void measure(int from, int[] distances, Link[] links, int laid) {
            Arrays.fill(distances, NO_WAY);
            distances[from] = 0;
            // A least way has at most ROUTERS - 1 links, and each round makes the ways right that are one link longer.
            for (int round = 1; round < ROUTERS; round++) {
                for (int i = 0; i < laid; i++) {
                    if (good[i]) {
                        shorten(distances, links[i]);
                    }
                }
            }
        }

        private static void shorten(int[] distances, Link link) {
            int a = link.first;
            int b = link.second;
            distances[a] = Math.min(distances[a], distances[b] + link.cost);
            distances[b] = Math.min(distances[b], distances[a] + link.cost);
        }

        int findEnd(Advert[] adverts, int address) {
            int end = NONE;
            int longest = Advert.NO_PREFIX;
            for (int i = 0; i < adverts.length; i++) {
                if (adverts[i] == null || fromHere[i] == NO_WAY) {
                    continue;
                }
                int match = adverts[i].longestMatch(address);
                boolean nearer = end != NONE && match == longest && fromHere[i] < fromHere[end];
                if (match > longest || nearer) {
                    end = i;
                    longest = match;
                }
            }
            return end;
        }

        int firstLinkToward(int router, int end, Link[] links, int laid) {
            measure(end, fromEnd, links, laid);
            for (int i = 0; i < laid; i++) {
                if (good[i] && links[i].touches(router)) {
                    int beyond = fromEnd[links[i].otherEnd(router)];
                    if (links[i].cost + beyond == fromHere[end]) {
                        return i;
                    }
                }
            }
            return NONE;
        }
    }

    private static final class Packet {
        private static final int WORD_BITS = 64;
        private static final int WORDS = (MOST_LENGTH + WORD_BITS - 1) / WORD_BITS;

        final int address;
        final boolean whole;
        // A bit for each byte, WORDS for each router: a boolean for each would fill the room.
        private final long[] endedBits = new long[ROUTERS * WORDS];

        Packet(int address, boolean whole) {
            this.address = address;
            this.whole = whole;
        }

        void markEnded(int router, int start, int bytes) {
            for (int i = start; i < start + bytes; i++) {
                endedBits[word(router, i)] |= 1L << (i % WORD_BITS);
            }
        }

        boolean hasEnded(int router, int i) {
            return ((endedBits[word(router, i)] >> (i % WORD_BITS)) & 1L) == 1L;
        }

        int countEnded(int router) {
            int count = 0;
            for (int i = router * WORDS; i < (router + 1) * WORDS; i++) {
                count += Long.bitCount(endedBits[i]);
            }
            return count;
        }

        private static int word(int router, int i) {
            return router * WORDS + i / WORD_BITS;
        }
    }

    private static final class Piece {
        final int packet;
        final int start;
        int bytes;
        int life;
        int router;
        int state = MOVING;

        Piece(int packet, int start, int bytes, int life, int router) {
            this.packet = packet;
            this.start = start;
            this.bytes = bytes;
            this.life = life;
            this.router = router;
        }

        Piece part(int start, int bytes) {
            return new Piece(packet, start, bytes, life, router);
        }
    }
}
