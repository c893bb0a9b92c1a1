/** An avionics network that is there twice; ../shared/DOC.md says what it promises. */
public final class TwinNetwork {

    public static final int NONE = -1;

    private static final int NETWORKS = 2;
    private static final int SYSTEMS = 4;
    private static final int LINKS = 8;
    private static final int LINES = 12;
    private static final int FIRST_FROM_SWITCH = 4;
    private static final int FIRST_BETWEEN = 8;
    private static final int[] LEAVES_SWITCH = {NONE, NONE, NONE, NONE, 0, 1, 2, 0, 0, 1, 1, 2};
    private static final int[] ENDS_AT_SWITCH = {0, 1, 2, 0, NONE, NONE, NONE, NONE, 1, 2, 0, 1};

    private static final int MOST_TICKS = 2000;
    private static final int BYTES_A_TICK = 8;
    private static final int ROOM_FROM_SYSTEM = 16;
    private static final int ROOM_FROM_SWITCH = 4;
    private static final int BURST = 64;
    private static final int LOWEST_31_BITS = 0x7FFFFFFF;

    private static final int LEAST_FRAME = 64;
    private static final int MOST_LINK_FRAME = 128;
    private static final int MOST_FRAME = 200;
    private static final int HEAD = 34;
    private static final int NETWORK_HEAD_AT = 14;
    private static final int NETWORK_HEAD = 20;
    private static final int SUM_AT = 24;
    private static final int CHECK_BYTES = 4;
    private static final int AROUND_FRAGMENT = 39;
    private static final int MORE_FOLLOW = 32;

    private static final int MOST_MESSAGE = 400;
    private static final int DATAGRAM_HEAD = 8;
    private static final int MOST_DATAGRAM = 1000;
    private static final int MOST_FRAGMENTS = 8;
    private static final int MOST_QUEUED = 4;
    private static final int MOST_SKEW = 1000;

    private static final int REASONS = 12;
    private static final int LOST = 0;
    private static final int WRONG_CHECK = 1;
    private static final int NO_LINK = 2;
    private static final int WRONG_WAY = 3;
    private static final int TOO_LONG = 4;
    private static final int OVER_ACCOUNT = 5;
    private static final int NO_ROOM = 6;
    private static final int WRONG_FORM = 7;
    private static final int OUT_OF_ORDER = 8;
    private static final int HAD_BEFORE = 9;
    private static final int BROKEN_MESSAGE = 10;
    private static final int PORT_FULL = 11;
    private static final int GOES_ON = -1;

    // Half a byte at a time: each frame is checked at every line's end, and bit by bit is slow.
    private static final int[] CHECK_STEPS = {
        0x00000000, 0x1DB71064, 0x3B6E20C8, 0x26D930AC, 0x76DC4190, 0x6B6B51F4, 0x4DB26158, 0x5005713C,
        0xEDB88320, 0xF00F9344, 0xD6D6A3E8, 0xCB61B38C, 0x9B64C2B0, 0x86D3D2D4, 0xA00AE278, 0xBDBDF21C
    };

    private final Link[] links = new Link[LINKS];
    private final Line[] lines = new Line[NETWORKS * LINES];
    private final int[] dropCounts = new int[REASONS];
    private final Frame draft = new Frame();
    private final Datagram lastRead = new Datagram();
    private int time = 0;

    public TwinNetwork() {
        for (int i = 0; i < lines.length; i++) {
            lines[i] = new Line(i % LINES < FIRST_FROM_SWITCH);
        }
    }

    public void link(int l, int source, int gap, int most, int targets, int flags)
            throws IllegalArgumentException, IllegalStateException {
        if (!isLinkNumber(l) || !isSystem(source) || gap < 4 || gap > 9
                || most < LEAST_FRAME || most > MOST_LINK_FRAME
                || !areTargets(targets, source) || !areFlags(flags)) {
            throw new IllegalArgumentException();
        }
        if (links[l] != null) {
            throw new IllegalStateException();
        }
        links[l] = new Link(l, source, 1 << gap, most, targets, flags);
    }

    public int write(int l, int size, int seed) throws IllegalArgumentException, IllegalStateException {
        Link link = linkAt(l);
        if (link == null) {
            throw new IllegalArgumentException();
        }
        int needed = link.fragmentsNeeded(size);
        if (needed == 0) {
            throw new IllegalArgumentException();
        }
        if (link.fragmentCount + needed > MOST_FRAGMENTS) {
            throw new IllegalStateException();
        }
        link.addMessage(size, seed);
        return needed;
    }

    public int tick(int n) {
        int ticks = n < 0 || n > MOST_TICKS ? 0 : n;
        for (int i = 0; i < ticks; i++) {
            if (isQuiet()) {
                passTime(ticks - i);
                break;
            }
            sendFragments();
            moveFrames();
            takeFrames();
            passTime(1);
        }
        return time;
    }

    public int read(int e, int l) throws IllegalArgumentException {
        Port port = portAt(e, l);
        if (port == null) {
            throw new IllegalArgumentException();
        }
        Datagram message = port.nextMessage();
        if (message == null) {
            return 0;
        }
        lastRead.copyFrom(message);
        return lastRead.length - DATAGRAM_HEAD;
    }

    public int byteOf(int k) {
        if (k < 0 || k >= lastRead.length - DATAGRAM_HEAD) {
            return NONE;
        }
        return lastRead.at(DATAGRAM_HEAD + k);
    }

    public int port(int e, int l) {
        Port port = portAt(e, l);
        return port == null ? NONE : port.state(time);
    }

    public boolean harm(int network, int line, int place, int mask) {
        Line harmed = lineAt(network, line);
        if (harmed == null || mask < 0 || mask > 255) {
            return false;
        }
        harmed.expectHarm(place & LOWEST_31_BITS, mask);
        return true;
    }

    public boolean babble(int network, int e, int l, int size, int n) {
        if (!isNetwork(network) || !isSystem(e) || !isLinkNumber(l) || size < LEAST_FRAME || size > MOST_FRAME) {
            return false;
        }
        draft.begin(l, e, network, size - AROUND_FRAGMENT);
        draft.tellFragment(n & 65535, 0, false);
        draft.seal(n & 255);
        return enqueue(network, e, false, draft);
    }

    public int onLine(int network, int line, int k) {
        Line asked = lineAt(network, line);
        if (asked == null || !asked.isBusy) {
            return NONE;
        }
        return k == NONE ? asked.frame.size : asked.frame.at(k);
    }

    public int waiting(int network, int line, int what) {
        Line asked = lineAt(network, line);
        if (asked == null || what < 0 || what > 1) {
            return NONE;
        }
        return what == 1 ? asked.highRow.count : asked.plainRow.count;
    }

    public int fragments(int l) {
        Link link = linkAt(l);
        return link == null ? NONE : link.fragmentCount;
    }

    public int account(int network, int l) {
        Link link = linkAt(l);
        return link == null || !isNetwork(network) ? NONE : link.accounts[network];
    }

    public int dropped(int reason) {
        return reason < 0 || reason >= REASONS ? NONE : dropCounts[reason];
    }

    public int bound(int l, int e) {
        Link link = linkAt(l);
        if (link == null || link.portOf(e) == null) {
            return NONE;
        }
        int path = pathTo(link.source, e);
        int ticks = 0;
        for (int line = 0; line < LINES; line++) {
            if ((path >> line & 1) != 0) {
                ticks += ticksOfAllLinks(line);
            }
        }
        return ticks;
    }

    private static boolean isNetwork(int network) {
        return network >= 0 && network < NETWORKS;
    }

    private static boolean isSystem(int e) {
        return e >= 0 && e < SYSTEMS;
    }

    private static boolean isLinkNumber(int l) {
        return l >= 0 && l < LINKS;
    }

    private static boolean areTargets(int targets, int source) {
        return targets > 0 && targets < 1 << SYSTEMS && (targets >> source & 1) == 0;
    }

    private static boolean areFlags(int flags) {
        return flags >> 2 >= 1 && flags >> 2 <= MOST_SKEW;
    }

    private Link linkAt(int l) {
        return isLinkNumber(l) ? links[l] : null;
    }

    private Port portAt(int e, int l) {
        Link link = linkAt(l);
        return link == null ? null : link.portOf(e);
    }

    private Line lineAt(int network, int line) {
        return isNetwork(network) && line >= 0 && line < LINES ? lines[network * LINES + line] : null;
    }

    private static int switchOf(int e) {
        return e % 3;
    }

    /** The lines (bits) from an end system to another; the switches stand in a row, so there is one way. */
    private static int pathTo(int source, int target) {
        int path = 1 << source | 1 << (FIRST_FROM_SWITCH + target);
        for (int s = switchOf(source); s < switchOf(target); s++) {
            path |= 1 << (FIRST_BETWEEN + s);
        }
        for (int s = switchOf(source); s > switchOf(target); s--) {
            path |= 1 << (FIRST_BETWEEN + 1 + s);
        }
        return path;
    }

    private int ticksOfAllLinks(int line) {
        int ticks = 0;
        for (Link link : links) {
            if (link != null && link.uses(line)) {
                ticks += (link.most + BYTES_A_TICK - 1) / BYTES_A_TICK;
            }
        }
        return ticks;
    }

    /** Nothing is under way: a tick then changes nothing but the time and the accounts. */
    private boolean isQuiet() {
        for (Line line : lines) {
            if (line.isBusy || !line.plainRow.isEmpty() || !line.highRow.isEmpty()) {
                return false;
            }
        }
        for (Link link : links) {
            if (link != null && link.fragmentCount > 0) {
                return false;
            }
        }
        return true;
    }

    private void sendFragments() {
        for (Link link : links) {
            if (link != null && link.fragmentCount > 0 && time >= link.openAt) {
                sendFragment(link);
            }
        }
    }

    private void sendFragment(Link link) {
        Fragment fragment = link.removeFragment();
        int sequence = link.nextSequence();
        for (int network = 0; network < NETWORKS; network++) {
            draft.begin(link.number, link.source, network, fragment.length);
            draft.tellFragment(fragment.messageNumber, fragment.place, fragment.moreFollow);
            for (int i = 0; i < fragment.length; i++) {
                draft.set(HEAD + i, fragment.datagramByte(link.number, fragment.place + i));
            }
            draft.seal(sequence);
            enqueue(network, link.source, link.isHigh, draft);
        }
        link.openAt = time + link.gap;
    }

    private boolean enqueue(int network, int line, boolean isHigh, Frame frame) {
        Line to = lineAt(network, line);
        boolean added = to != null && to.rowFor(isHigh).add(frame);
        if (!added) {
            dropCounts[NO_ROOM]++;
        }
        return added;
    }

    private void moveFrames() {
        for (int i = 0; i < lines.length; i++) {
            if (!lines[i].moves()) {
                continue;
            }
            int line = i % LINES;
            int reason = ENDS_AT_SWITCH[line] == NONE
                    ? enterSystem(i / LINES, line - FIRST_FROM_SWITCH, lines[i].frame)
                    : passSwitch(i / LINES, line, lines[i].frame);
            if (reason != GOES_ON) {
                dropCounts[reason]++;
            }
        }
    }

    /** The reason for which a switch drops a frame, or GOES_ON. */
    private int passSwitch(int network, int line, Frame frame) {
        if (!frame.hasRightCheck()) {
            return WRONG_CHECK;
        }
        Link link = linkAt(frame.linkNumber());
        if (link == null) {
            return NO_LINK;
        }
        if (!link.uses(line)) {
            return WRONG_WAY;
        }
        if (frame.size > link.most) {
            return TOO_LONG;
        }
        if (line < FIRST_FROM_SWITCH && !link.pays(network, frame.size)) {
            return OVER_ACCOUNT;
        }
        for (int out = FIRST_FROM_SWITCH; out < LINES; out++) {
            if (LEAVES_SWITCH[out] == ENDS_AT_SWITCH[line] && link.uses(out)) {
                enqueue(network, out, link.isHigh, frame);
            }
        }
        return GOES_ON;
    }

    /** The reason for which an end system drops a frame, or GOES_ON. */
    private int enterSystem(int network, int e, Frame frame) {
        if (!frame.hasRightCheck()) {
            return WRONG_CHECK;
        }
        Link link = linkAt(frame.linkNumber());
        if (link == null) {
            return NO_LINK;
        }
        Port port = link.portOf(e);
        if (port == null) {
            return WRONG_WAY;
        }
        if (!frame.hasRightForm()) {
            return WRONG_FORM;
        }
        int reason = port.receive(network, frame.sequence(), time);
        return reason == GOES_ON ? port.putTogether(frame, time) : reason;
    }

    private void takeFrames() {
        for (Line line : lines) {
            if (!line.isBusy && line.takesAfterLoss()) {
                dropCounts[LOST]++;
            }
        }
    }

    private void passTime(int ticks) {
        for (Link link : links) {
            if (link != null) {
                link.growAccounts(ticks);
            }
        }
        time += ticks;
    }

    /** The bytes of a frame. Each row and line has frames of its own and copies into them. */
    private static final class Frame {
        private final byte[] bytes = new byte[MOST_FRAME];
        private int size = 0;

        int at(int k) {
            return k >= 0 && k < size ? bytes[k] & 255 : NONE;
        }

        int pairAt(int k) {
            return k >= 0 && k + 1 < size ? (bytes[k] & 255) << 8 | bytes[k + 1] & 255 : NONE;
        }

        void set(int k, int value) {
            if (k >= 0 && k < size) {
                bytes[k] = (byte) value;
            }
        }

        void setPair(int k, int value) {
            set(k, value >> 8);
            set(k + 1, value);
        }

        void copyFrom(Frame other) {
            System.arraycopy(other.bytes, 0, bytes, 0, other.size);
            size = other.size;
        }

        /** Everything that the link and the length tell; the fragment is of zeros. */
        void begin(int link, int source, int network, int length) {
            size = Math.min(MOST_FRAME, Math.max(LEAST_FRAME, length + AROUND_FRAGMENT));
            for (int i = 0; i < size; i++) {
                bytes[i] = 0;
            }
            set(0, 3);
            set(5, link);
            set(6, 2);
            set(10, source);
            set(11, network == 0 ? 32 : 64);
            set(12, 8);
            set(14, 69);
            setPair(16, NETWORK_HEAD + length);
            set(22, 1);
            set(23, 17);
            set(26, 10);
            set(27, 1);
            set(28, source);
            set(29, 1);
            set(30, 224);
            set(31, 224);
            set(33, link);
        }

        void tellFragment(int messageNumber, int place, boolean moreFollow) {
            setPair(18, messageNumber);
            set(20, moreFollow ? MORE_FOLLOW : 0);
            set(21, place / 8);
        }

        /** What depends on all other bytes. */
        void seal(int sequence) {
            setPair(SUM_AT, sum());
            set(size - CHECK_BYTES - 1, sequence);
            int check = check();
            for (int i = 0; i < CHECK_BYTES; i++) {
                set(size - CHECK_BYTES + i, check >> 8 * i);
            }
        }

        void spoil(int place, int mask) {
            if (size > 0) {
                int k = place % size;
                set(k, at(k) ^ mask);
            }
        }

        /** The link that bytes 0 .. 5 tell, or NONE if they aren't as they must be. */
        int linkNumber() {
            boolean isTold = at(0) == 3 && pairAt(1) == 0 && pairAt(3) == 0;
            return isTold ? at(5) : NONE;
        }

        int fragmentLength() {
            return pairAt(16) - NETWORK_HEAD;
        }

        int messageNumber() {
            return pairAt(18);
        }

        boolean moreFollow() {
            return (at(20) & MORE_FOLLOW) != 0;
        }

        int place() {
            return at(21) * 8;
        }

        int sequence() {
            return at(size - CHECK_BYTES - 1);
        }

        boolean hasRightForm() {
            return at(12) == 8 && at(13) == 0 && at(14) == 69 && at(23) == 17 && pairAt(SUM_AT) == sum()
                    && fragmentLength() >= 0 && fragmentLength() <= size - AROUND_FRAGMENT;
        }

        boolean hasRightCheck() {
            int check = check();
            for (int i = 0; i < CHECK_BYTES; i++) {
                if (at(size - CHECK_BYTES + i) != (check >> 8 * i & 255)) {
                    return false;
                }
            }
            return true;
        }

        private int sum() {
            int sum = 0;
            for (int k = NETWORK_HEAD_AT; k < HEAD; k += 2) {
                if (k != SUM_AT) {
                    sum += pairAt(k);
                }
            }
            // Ten numbers of 16 bits: the second time nothing is left above.
            sum = (sum >> 16) + (sum & 65535);
            sum = (sum >> 16) + (sum & 65535);
            return ~sum & 65535;
        }

        private int check() {
            int check = -1;
            for (int k = 0; k < size - CHECK_BYTES; k++) {
                check ^= bytes[k] & 255;
                check = check >>> 4 ^ CHECK_STEPS[check & 15];
                check = check >>> 4 ^ CHECK_STEPS[check & 15];
            }
            return ~check;
        }
    }

    /** Frames that wait for a line, the first one first. */
    private static final class Row {
        private final Frame[] slots;
        private int first = 0;
        private int count = 0;

        Row(int room) {
            slots = new Frame[room];
        }

        boolean isEmpty() {
            return count == 0;
        }

        boolean add(Frame frame) {
            if (count >= slots.length) {
                return false;
            }
            int k = first + count < slots.length ? first + count : first + count - slots.length;
            if (slots[k] == null) {
                slots[k] = new Frame();
            }
            slots[k].copyFrom(frame);
            count++;
            return true;
        }

        /** Hands out the first frame and keeps a spare one in its place, so that none is made anew. */
        Frame exchangeFirst(Frame spare) {
            if (count == 0 || slots[first] == null) {
                return spare;
            }
            Frame taken = slots[first];
            slots[first] = spare;
            count--;
            // An empty row starts over at slot 0: slots that were never needed stay without a frame.
            first = count == 0 || first + 1 >= slots.length ? 0 : first + 1;
            return taken;
        }
    }

    /** A line of one network, the frame on it and the rows before it. */
    private static final class Line {
        private final Row plainRow;
        private final Row highRow;
        private final boolean hasOneRow;
        private Frame frame = new Frame();
        private boolean isBusy = false;
        private int gone = 0;
        private boolean expectsHarm = false;
        private int harmPlace = 0;
        private int harmMask = 0;

        Line(boolean isFromSystem) {
            hasOneRow = isFromSystem;
            plainRow = new Row(isFromSystem ? ROOM_FROM_SYSTEM : ROOM_FROM_SWITCH);
            highRow = new Row(isFromSystem ? 0 : ROOM_FROM_SWITCH);
        }

        Row rowFor(boolean isHigh) {
            return isHigh && !hasOneRow ? highRow : plainRow;
        }

        void expectHarm(int place, int mask) {
            expectsHarm = true;
            harmPlace = place;
            harmMask = mask;
        }

        /** True if the frame has arrived; it is to be used before the line takes another. */
        boolean moves() {
            if (!isBusy) {
                return false;
            }
            gone += BYTES_A_TICK;
            isBusy = gone < frame.size;
            return !isBusy;
        }

        /** Takes a frame if one waits; true if harm lost one before. */
        boolean takesAfterLoss() {
            takeFirst();
            if (!isBusy || !expectsHarm) {
                return false;
            }
            expectsHarm = false;
            if (harmMask != 0) {
                frame.spoil(harmPlace, harmMask);
                return false;
            }
            takeFirst();
            return true;
        }

        private void takeFirst() {
            Row row = highRow.isEmpty() ? plainRow : highRow;
            isBusy = !row.isEmpty();
            frame = row.exchangeFirst(frame);
            gone = 0;
        }
    }

    /** A part of a written message that waits to become a frame. */
    private static final class Fragment {
        private int messageNumber = 0;
        private int messageSize = 0;
        private int seed = 0;
        private int place = 0;
        private int length = 0;
        private boolean moreFollow = false;

        /** A message is known by its size and seed: its bytes needn't be kept. */
        int datagramByte(int link, int k) {
            switch (k) {
                case 0: return 3;
                case 1: return 232 + link;
                case 2: return 7;
                case 3: return 208 + link;
                case 4: return DATAGRAM_HEAD + messageSize >> 8;
                case 5: return DATAGRAM_HEAD + messageSize & 255;
                case 6: return 0;
                case 7: return 0;
                default:
                    int i = k - DATAGRAM_HEAD;
                    return seed + 37 * i + i * i / 8 & 255;
            }
        }
    }

    /** A link that is set up, its waiting fragments, its accounts and its ports. */
    private static final class Link {
        private final int number;
        private final int source;
        private final int gap;
        private final int most;
        private final boolean isHigh;
        private final boolean isQueuing;
        private final int paths;
        private final Port[] ports = new Port[SYSTEMS];
        private final int[] accounts = new int[NETWORKS];
        private final Fragment[] waitingOnes = new Fragment[MOST_FRAGMENTS];
        private int firstFragment = 0;
        private int fragmentCount = 0;
        private int messageCount = 0;
        private int sequence = NONE;
        private int openAt = 0;

        Link(int number, int source, int gap, int most, int targets, int flags) {
            this.number = number;
            this.source = source;
            this.gap = gap;
            this.most = most;
            isHigh = (flags & 1) != 0;
            isQueuing = (flags & 2) != 0;
            int lines = 0;
            for (int e = 0; e < SYSTEMS; e++) {
                if ((targets >> e & 1) != 0) {
                    lines |= pathTo(source, e);
                    ports[e] = new Port(isQueuing, flags >> 2);
                }
            }
            paths = lines;
            for (int i = 0; i < MOST_FRAGMENTS; i++) {
                waitingOnes[i] = new Fragment();
            }
            for (int network = 0; network < NETWORKS; network++) {
                accounts[network] = most * (gap + BURST);
            }
        }

        boolean uses(int line) {
            return (paths >> line & 1) != 0;
        }

        /** The port at an end system, or null if that is no target. */
        Port portOf(int e) {
            return isSystem(e) ? ports[e] : null;
        }

        private int fragmentRoom() {
            int room = most - AROUND_FRAGMENT;
            return isQueuing ? room / 8 * 8 : room;
        }

        /** How many fragments a message has, or 0 if it doesn't fit this link. */
        int fragmentsNeeded(int size) {
            int room = fragmentRoom();
            if (size < 1 || size > MOST_MESSAGE || room < 1) {
                return 0;
            }
            int needed = (DATAGRAM_HEAD + size + room - 1) / room;
            return needed <= (isQueuing ? MOST_FRAGMENTS : 1) ? needed : 0;
        }

        void addMessage(int size, int seed) {
            int needed = fragmentsNeeded(size);
            int room = fragmentRoom();
            for (int i = 0; i < needed && fragmentCount < MOST_FRAGMENTS; i++) {
                Fragment fragment = waitingOnes[(firstFragment + fragmentCount) % MOST_FRAGMENTS];
                fragment.messageNumber = messageCount;
                fragment.messageSize = size;
                fragment.seed = seed;
                fragment.place = i * room;
                fragment.length = Math.min(room, DATAGRAM_HEAD + size - fragment.place);
                fragment.moreFollow = i + 1 < needed;
                fragmentCount++;
            }
            messageCount = messageCount + 1 & 65535;
        }

        /** The first waiting fragment, of which there must be one; it is good until a message is added. */
        Fragment removeFragment() {
            Fragment fragment = waitingOnes[firstFragment];
            firstFragment = (firstFragment + 1) % MOST_FRAGMENTS;
            fragmentCount--;
            return fragment;
        }

        int nextSequence() {
            sequence = sequence == NONE ? 0 : Port.following(sequence);
            return sequence;
        }

        boolean pays(int network, int bytes) {
            int price = bytes * gap;
            if (accounts[network] < price) {
                return false;
            }
            accounts[network] -= price;
            return true;
        }

        void growAccounts(int ticks) {
            for (int network = 0; network < NETWORKS; network++) {
                accounts[network] = Math.min(most * (gap + BURST), accounts[network] + most * ticks);
            }
        }
    }

    /** The bytes of a datagram that came, from its first one on. */
    private static final class Datagram {
        private final byte[] bytes = new byte[MOST_DATAGRAM];
        private int length = 0;

        int at(int k) {
            return k >= 0 && k < length ? bytes[k] & 255 : NONE;
        }

        void copyFrom(Datagram other) {
            System.arraycopy(other.bytes, 0, bytes, 0, other.length);
            length = other.length;
        }

        void append(Frame frame, int fragmentLength) {
            for (int i = 0; i < fragmentLength && length < MOST_DATAGRAM; i++) {
                bytes[length] = (byte) frame.at(HEAD + i);
                length++;
            }
        }

        boolean isWhole() {
            return length >= DATAGRAM_HEAD && (at(4) << 8 | at(5)) == length;
        }
    }

    /** What one end system holds of one link: what came last, a begun message and the finished ones. */
    private static final class Port {
        private final boolean isQueuing;
        private final int skew;
        private final int[] lastSequences = {NONE, NONE};
        private int takenSequence = NONE;
        private int takenAt = 0;
        private boolean isBegun = false;
        private int begunNumber = 0;
        private Datagram begun = new Datagram();
        private final Datagram[] kept;
        private int firstKept = 0;
        private int keptCount = 0;
        private int cameAt = 0;

        Port(boolean isQueuing, int skew) {
            this.isQueuing = isQueuing;
            this.skew = skew;
            kept = new Datagram[isQueuing ? MOST_QUEUED : 1];
        }

        /** The sequence number after another: 0 comes but once. */
        static int following(int sequence) {
            return sequence == 255 ? 1 : sequence + 1;
        }

        /** The reason for which a frame with this sequence number isn't taken, or GOES_ON. */
        int receive(int network, int sequence, int time) {
            int last = lastSequences[network];
            lastSequences[network] = sequence;
            if (!isInOrder(sequence, last)) {
                return OUT_OF_ORDER;
            }
            if (!isToBeTaken(sequence, time)) {
                return HAD_BEFORE;
            }
            takenSequence = sequence;
            takenAt = time;
            return GOES_ON;
        }

        private static boolean isInOrder(int sequence, int last) {
            return last == NONE || sequence == 0
                    || sequence == following(last) || sequence == following(following(last));
        }

        private boolean isToBeTaken(int sequence, int time) {
            if (takenSequence == NONE || time - takenAt > skew) {
                return true;
            }
            if (sequence == takenSequence) {
                return false;
            }
            int ahead = sequence > takenSequence ? sequence - takenSequence : sequence - takenSequence + 255;
            return sequence == 0 || takenSequence == 0 || ahead < 128;
        }

        /** The reason for which a frame that was taken makes no message, or GOES_ON. */
        int putTogether(Frame frame, int time) {
            int place = frame.place();
            int length = frame.fragmentLength();
            boolean fits = place == 0
                    || isBegun && frame.messageNumber() == begunNumber && place == begun.length;
            isBegun = fits && place + length <= MOST_DATAGRAM;
            if (!isBegun) {
                return BROKEN_MESSAGE;
            }
            if (place == 0) {
                begun.length = 0;
                begunNumber = frame.messageNumber();
            }
            begun.append(frame, length);
            if (frame.moreFollow()) {
                return GOES_ON;
            }
            isBegun = false;
            return begun.isWhole() ? keepBegun(time) : BROKEN_MESSAGE;
        }

        private int keepBegun(int time) {
            if (isQueuing && keptCount >= kept.length) {
                return PORT_FULL;
            }
            int k = isQueuing ? (firstKept + keptCount) % MOST_QUEUED : 0;
            Datagram spare = kept[k] == null ? new Datagram() : kept[k];
            kept[k] = begun;
            begun = spare;
            keptCount = isQueuing ? keptCount + 1 : 1;
            cameAt = time;
            return GOES_ON;
        }

        /** The message that is to be read, or null; it is good until the next one comes. */
        Datagram nextMessage() {
            if (keptCount == 0) {
                return null;
            }
            Datagram message = kept[firstKept];
            if (isQueuing) {
                keptCount--;
                firstKept = (firstKept + 1) % MOST_QUEUED;
            }
            return message;
        }

        int state(int time) {
            if (isQueuing) {
                return keptCount;
            }
            return keptCount == 0 ? NONE : time - cameAt;
        }
    }
}
