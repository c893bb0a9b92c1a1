import java.util.ArrayList;
import java.util.HashMap;
import java.util.List;
import java.util.Map;
import java.util.zip.CRC32;

/**
 * The document written down once more, sentence by sentence, with the Java library and with no thought for
 * speed or room: every tick is done, frames are rows of bytes that nobody shares, paths are searched for.
 */
final class PlainModel {
    private static final class LinkSet {
        int source, gap, most, targets, skew;
        boolean high, queuing;
        List<int[]> waiting = new ArrayList<>(); // number, place, more, then the bytes
        int open = 0, frames = 0, messages = 0;
        int[] account = new int[2];

        boolean uses(int line) {
            for (int e = 0; e < 4; e++) {
                if ((targets & 1 << e) != 0 && pathOf(source, e).contains(line)) {
                    return true;
                }
            }
            return false;
        }
    }

    private static final class LineSet {
        List<int[]> plain = new ArrayList<>(), high = new ArrayList<>();
        int[] frame = null;
        int gone = 0;
        int[] harm = null;
    }

    private static final class PortSet {
        Integer[] last = new Integer[2];
        Integer taken = null;
        int takenAt = 0;
        Integer begunNumber = null;
        List<Integer> begun = new ArrayList<>();
        List<List<Integer>> messages = new ArrayList<>();
        int came = 0;
    }

    private final LinkSet[] links = new LinkSet[8];
    private final LineSet[][] lines = new LineSet[2][12];
    private final Map<Integer, PortSet> ports = new HashMap<>();
    private final int[] drops = new int[12];
    private List<Integer> readLast = List.of();
    private int now = 0;

    PlainModel() {
        for (LineSet[] network : lines) {
            for (int i = 0; i < 12; i++) {
                network[i] = new LineSet();
            }
        }
    }

    // Points of the network: end systems 0 .. 3, switches 10, 11, 12.
    private static int from(int line) {
        return line < 4 ? line : line < 8 ? 10 + (line - 4) % 3 : new int[] {10, 11, 11, 12}[line - 8];
    }

    private static int to(int line) {
        return line < 4 ? 10 + line % 3 : line < 8 ? line - 4 : new int[] {11, 12, 10, 11}[line - 8];
    }

    /** The fewest lines, found by trying longer and longer ways. */
    private static List<Integer> pathOf(int source, int target) {
        List<List<Integer>> ways = new ArrayList<>();
        ways.add(new ArrayList<>(List.of(source)));
        for (int i = 0; i < ways.size(); i++) {
            List<Integer> way = ways.get(i);
            int end = to(way.get(way.size() - 1));
            if (end == target) {
                return way;
            }
            for (int line = 4; line < 12; line++) {
                if (from(line) == end) {
                    List<Integer> longer = new ArrayList<>(way);
                    longer.add(line);
                    ways.add(longer);
                }
            }
        }
        throw new AssertionError();
    }

    void link(int l, int source, int gap, int most, int targets, int flags) {
        if (l < 0 || l > 7 || source < 0 || source > 3 || gap < 4 || gap > 9 || most < 64 || most > 128
                || targets < 1 || targets > 15 || (targets & 1 << source) != 0 || flags < 4 || flags > 4003) {
            throw new IllegalArgumentException();
        }
        if (links[l] != null) {
            throw new IllegalStateException();
        }
        LinkSet k = new LinkSet();
        k.source = source;
        k.gap = (int) Math.pow(2, gap);
        k.most = most;
        k.targets = targets;
        k.high = flags % 2 == 1;
        k.queuing = flags / 2 % 2 == 1;
        k.skew = flags / 4;
        k.account[0] = k.account[1] = most * (k.gap + 64);
        links[l] = k;
        for (int e = 0; e < 4; e++) {
            if ((targets & 1 << e) != 0) {
                ports.put(e * 8 + l, new PortSet());
            }
        }
    }

    private LinkSet linkAt(int l) {
        return l < 0 || l > 7 ? null : links[l];
    }

    int write(int l, int size, int seed) {
        LinkSet k = linkAt(l);
        if (k == null || size < 1 || size > 400) {
            throw new IllegalArgumentException();
        }
        List<Integer> datagram = new ArrayList<>(List.of(
                (1000 + l) / 256, (1000 + l) % 256, (2000 + l) / 256, (2000 + l) % 256,
                (size + 8) / 256, (size + 8) % 256, 0, 0));
        for (long i = 0; i < size; i++) {
            datagram.add((int) Math.floorMod(seed + 37 * i + i * i / 8, 256L));
        }
        int p = k.most - 39;
        while (k.queuing && p % 8 != 0) {
            p--;
        }
        List<int[]> made = new ArrayList<>();
        for (int place = 0; place < datagram.size(); place += p) {
            int end = Math.min(datagram.size(), place + p);
            int[] fragment = new int[3 + end - place];
            fragment[0] = k.messages % 65536;
            fragment[1] = place;
            fragment[2] = end < datagram.size() ? 1 : 0;
            for (int i = place; i < end; i++) {
                fragment[3 + i - place] = datagram.get(i);
            }
            made.add(fragment);
        }
        if (made.size() > (k.queuing ? 8 : 1)) {
            throw new IllegalArgumentException();
        }
        if (k.waiting.size() + made.size() > 8) {
            throw new IllegalStateException();
        }
        k.waiting.addAll(made);
        k.messages++;
        return made.size();
    }

    private static int sumOf(int[] f) {
        int sum = 0;
        for (int i = 14; i < 34; i += 2) {
            sum += i == 24 ? 0 : f[i] * 256 + f[i + 1];
        }
        while (sum > 65535) {
            sum = sum % 65536 + sum / 65536;
        }
        return 65535 - sum;
    }

    private static long checkOf(int[] f) {
        CRC32 crc = new CRC32();
        for (int i = 0; i < f.length - 4; i++) {
            crc.update(f[i]);
        }
        return crc.getValue();
    }

    private static int[] frameOf(int l, int source, int network, int[] fragment, int sequence) {
        int length = fragment.length - 3;
        int[] f = new int[Math.max(64, length + 39)];
        int[] head = {3, 0, 0, 0, 0, l, 2, 0, 0, 0, source, 32 + 32 * network, 8, 0,
            69, 0, (20 + length) / 256, (20 + length) % 256, fragment[0] / 256, fragment[0] % 256,
            32 * fragment[2], fragment[1] / 8, 1, 17, 0, 0, 10, 1, source, 1, 224, 224, 0, l};
        System.arraycopy(head, 0, f, 0, 34);
        System.arraycopy(fragment, 3, f, 34, length);
        f[24] = sumOf(f) / 256;
        f[25] = sumOf(f) % 256;
        f[f.length - 5] = sequence;
        long check = checkOf(f);
        for (int i = 0; i < 4; i++) {
            f[f.length - 4 + i] = (int) (check >> 8 * i & 255);
        }
        return f;
    }

    private boolean put(int network, int line, boolean high, int[] frame) {
        LineSet x = lines[network][line];
        List<int[]> row = line > 3 && high ? x.high : x.plain;
        if (row.size() >= (line < 4 ? 16 : 4)) {
            drops[6]++;
            return false;
        }
        row.add(frame.clone());
        return true;
    }

    int tick(int n) {
        for (int i = 0; n <= 2000 && i < n; i++) {
            tickOnce();
        }
        return now;
    }

    private void tickOnce() {
        for (int l = 0; l < 8; l++) {
            LinkSet k = links[l];
            if (k != null && !k.waiting.isEmpty() && now >= k.open) {
                int[] fragment = k.waiting.remove(0);
                int sequence = k.frames == 0 ? 0 : (k.frames - 1) % 255 + 1;
                k.frames++;
                put(0, k.source, k.high, frameOf(l, k.source, 0, fragment, sequence));
                put(1, k.source, k.high, frameOf(l, k.source, 1, fragment, sequence));
                k.open = now + k.gap;
            }
        }
        for (int network = 0; network < 2; network++) {
            for (int line = 0; line < 12; line++) {
                LineSet x = lines[network][line];
                if (x.frame != null) {
                    x.gone += 8;
                    if (x.gone >= x.frame.length) {
                        int[] frame = x.frame;
                        x.frame = null;
                        int reason = to(line) >= 10
                                ? atSwitch(network, line, frame) : atSystem(network, to(line), frame);
                        if (reason > 0) {
                            drops[reason]++;
                        }
                    }
                }
            }
        }
        for (int network = 0; network < 2; network++) {
            for (int line = 0; line < 12; line++) {
                LineSet x = lines[network][line];
                while (x.frame == null && x.high.size() + x.plain.size() > 0) {
                    int[] frame = x.high.isEmpty() ? x.plain.remove(0) : x.high.remove(0);
                    int[] harm = x.harm;
                    x.harm = null;
                    if (harm != null && harm[1] == 0) {
                        drops[0]++;
                        continue;
                    }
                    if (harm != null) {
                        frame[(int) ((harm[0] & 0x7fffffffL) % frame.length)] ^= harm[1];
                    }
                    x.frame = frame;
                    x.gone = 0;
                }
            }
        }
        for (LinkSet k : links) {
            for (int network = 0; k != null && network < 2; network++) {
                k.account[network] = Math.min(k.most * (k.gap + 64), k.account[network] + k.most);
            }
        }
        now++;
    }

    private static boolean checkWrong(int[] f) {
        long check = checkOf(f);
        for (int i = 0; i < 4; i++) {
            if (f[f.length - 4 + i] != (check >> 8 * i & 255)) {
                return true;
            }
        }
        return false;
    }

    private LinkSet linkOf(int[] f) {
        return f[0] == 3 && f[1] + f[2] + f[3] + f[4] == 0 ? linkAt(f[5]) : null;
    }

    private int atSwitch(int network, int line, int[] f) {
        LinkSet k = linkOf(f);
        if (checkWrong(f)) {
            return 1;
        } else if (k == null) {
            return 2;
        } else if (!k.uses(line)) {
            return 3;
        } else if (f.length > k.most) {
            return 4;
        } else if (line < 4 && k.account[network] < f.length * k.gap) {
            return 5;
        }
        k.account[network] -= line < 4 ? f.length * k.gap : 0;
        for (int out = 4; out < 12; out++) {
            if (from(out) == to(line) && k.uses(out)) {
                put(network, out, k.high, f);
            }
        }
        return 0;
    }

    private static int after(int sequence) {
        return sequence % 255 + 1;
    }

    private int atSystem(int network, int e, int[] f) {
        LinkSet k = linkOf(f);
        if (checkWrong(f)) {
            return 1;
        } else if (k == null) {
            return 2;
        } else if ((k.targets & 1 << e) == 0) {
            return 3;
        }
        int length = f[16] * 256 + f[17] - 20;
        if (f[12] != 8 || f[13] != 0 || f[14] != 69 || f[23] != 17 || sumOf(f) != f[24] * 256 + f[25]
                || length < 0 || length > f.length - 39) {
            return 7;
        }
        PortSet x = ports.get(e * 8 + f[5]);
        int sequence = f[f.length - 5];
        Integer last = x.last[network];
        x.last[network] = sequence;
        if (last != null && sequence != 0 && sequence != after(last) && sequence != after(after(last))) {
            return 8;
        }
        boolean taken = x.taken == null || now - x.takenAt > k.skew;
        if (!taken && sequence != x.taken) {
            int steps = 0;
            for (int s = x.taken; sequence != 0 && x.taken != 0 && s != sequence; s = after(s)) {
                steps++;
            }
            taken = steps < 128;
        }
        if (!taken) {
            return 9;
        }
        x.taken = sequence;
        x.takenAt = now;
        return putTogether(k, x, f, length);
    }

    private int putTogether(LinkSet k, PortSet x, int[] f, int length) {
        int number = f[18] * 256 + f[19];
        int place = f[21] * 8;
        if (place == 0) {
            x.begunNumber = number;
            x.begun = new ArrayList<>();
        } else if (x.begunNumber == null || x.begunNumber != number || x.begun.size() != place) {
            x.begunNumber = null;
            return 10;
        }
        if (place + length > 1000) {
            x.begunNumber = null;
            return 10;
        }
        for (int i = 0; i < length; i++) {
            x.begun.add(f[34 + i]);
        }
        if (f[20] == 32) {
            return 0;
        }
        x.begunNumber = null;
        List<Integer> whole = x.begun;
        if (whole.size() < 8 || whole.get(4) * 256 + whole.get(5) != whole.size()) {
            return 10;
        }
        if (k.queuing && x.messages.size() == 4) {
            return 11;
        }
        if (!k.queuing) {
            x.messages.clear();
        }
        x.messages.add(new ArrayList<>(whole.subList(8, whole.size())));
        x.came = now;
        return 0;
    }

    private PortSet portAt(int e, int l) {
        return e < 0 || e > 3 || l < 0 || l > 7 ? null : ports.get(e * 8 + l);
    }

    int read(int e, int l) {
        PortSet x = portAt(e, l);
        if (x == null) {
            throw new IllegalArgumentException();
        }
        if (x.messages.isEmpty()) {
            return 0;
        }
        readLast = x.messages.get(0);
        if (links[l].queuing) {
            x.messages.remove(0);
        }
        return readLast.size();
    }

    int byteOf(int k) {
        return k < 0 || k >= readLast.size() ? -1 : readLast.get(k);
    }

    int port(int e, int l) {
        PortSet x = portAt(e, l);
        if (x == null) {
            return -1;
        }
        if (links[l].queuing) {
            return x.messages.size();
        }
        return x.messages.isEmpty() ? -1 : now - x.came;
    }

    private LineSet lineAt(int network, int line) {
        return network < 0 || network > 1 || line < 0 || line > 11 ? null : lines[network][line];
    }

    boolean harm(int network, int line, int place, int mask) {
        LineSet x = lineAt(network, line);
        if (x == null || mask < 0 || mask > 255) {
            return false;
        }
        x.harm = new int[] {place, mask};
        return true;
    }

    boolean babble(int network, int e, int l, int size, int n) {
        if (network < 0 || network > 1 || e < 0 || e > 3 || l < 0 || l > 7 || size < 64 || size > 200) {
            return false;
        }
        int[] fragment = new int[3 + size - 39];
        fragment[0] = Math.floorMod(n, 65536);
        return put(network, e, false, frameOf(l, e, network, fragment, Math.floorMod(n, 256)));
    }

    int onLine(int network, int line, int k) {
        LineSet x = lineAt(network, line);
        if (x == null || x.frame == null) {
            return -1;
        }
        return k == -1 ? x.frame.length : k < 0 || k >= x.frame.length ? -1 : x.frame[k];
    }

    int waiting(int network, int line, int what) {
        LineSet x = lineAt(network, line);
        return x == null || what < 0 || what > 1 ? -1 : what == 0 ? x.plain.size() : x.high.size();
    }

    int fragments(int l) {
        return linkAt(l) == null ? -1 : links[l].waiting.size();
    }

    int account(int network, int l) {
        return linkAt(l) == null || network < 0 || network > 1 ? -1 : links[l].account[network];
    }

    int dropped(int reason) {
        return reason < 0 || reason > 11 ? -1 : drops[reason];
    }

    int bound(int l, int e) {
        if (portAt(e, l) == null) {
            return -1;
        }
        int sum = 0;
        for (int line : pathOf(links[l].source, e)) {
            for (LinkSet k : links) {
                sum += k != null && k.uses(line) ? (int) Math.ceil(k.most / 8.0) : 0;
            }
        }
        return sum;
    }
}
