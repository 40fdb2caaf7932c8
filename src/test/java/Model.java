import java.util.ArrayList;
import java.util.Arrays;
import java.util.HashSet;
import java.util.List;
import java.util.Set;

/** A second, slow reading of the document's rings, written with lists and scans, to compare the class with. */
final class Model {
    static final class Desc {
        int len;
        int flags;
        int link;

        boolean next() {
            return flags % 2 == 1;
        }

        boolean write() {
            return flags / 2 % 2 == 1;
        }

        boolean indirect() {
            return flags / 4 % 2 == 1;
        }

        int avail() {
            return flags / 8 % 2;
        }

        int done() {
            return flags / 16 % 2;
        }
    }

    static final class Buf {
        int state;
        int parts;
        int id;
        int table = -1;
        int capacity = -1;
        int load = -1;
        int written = -1;
        Set<Integer> has = new HashSet<>();
        int places;

        boolean open() {
            return state < 3;
        }
    }

    int format;
    int n = 4;
    int features;
    int offered;
    int seen;
    int used;
    int taken;
    int kickedAt;
    int signalledAt;
    int deviceEvent;
    int driverEvent;
    int deviceHush;
    int driverHush;
    int broken;
    int kicks;
    int signals;
    int upTo = -1;
    int upToLength = -1;
    List<List<Desc>> tables = new ArrayList<>();
    int[] rowOffered;
    int[] rowUsed;
    int[] rowLength;
    List<Buf> bufs = new ArrayList<>();

    // What calls told last: not in an image.
    List<Integer> acts = new ArrayList<>();
    List<Integer> drained = new ArrayList<>();
    int length = -1;
    int x;

    Model() {
        setup(0, 4, 0);
    }

    int m() {
        return format == 0 ? 16 : 2 * n;
    }

    int wrap(int p) {
        return p < n ? 1 : 0;
    }

    int setup(int f, int places, int feat) {
        if (f < 0 || f > 1 || places != 2 && places != 4 && places != 8 || feat < 0 || feat > 7) {
            return -1;
        }
        format = f;
        n = places;
        features = feat;
        kicks = 0;
        signals = 0;
        bufs = new ArrayList<>();
        tables = new ArrayList<>();
        for (int t = 0; t < 5; t++) {
            tables.add(new ArrayList<>());
        }
        first();
        return 0;
    }

    private void first() {
        offered = seen = used = taken = kickedAt = signalledAt = 0;
        deviceEvent = driverEvent = deviceHush = driverHush = broken = 0;
        upTo = -1;
        tables.set(0, new ArrayList<>());
        for (int i = 0; i < n; i++) {
            tables.get(0).add(new Desc());
        }
        rowOffered = new int[n];
        rowUsed = new int[n];
        rowLength = new int[n];
        Arrays.fill(rowOffered, -1);
        Arrays.fill(rowUsed, -1);
        Arrays.fill(rowLength, -1);
    }

    Model copy() {
        Model c = new Model();
        c.format = format;
        c.n = n;
        c.features = features;
        c.first();
        c.take(this);
        return c;
    }

    /** All of the ring of another one, by value. */
    void take(Model o) {
        format = o.format;
        n = o.n;
        features = o.features;
        offered = o.offered;
        seen = o.seen;
        used = o.used;
        taken = o.taken;
        kickedAt = o.kickedAt;
        signalledAt = o.signalledAt;
        deviceEvent = o.deviceEvent;
        driverEvent = o.driverEvent;
        deviceHush = o.deviceHush;
        driverHush = o.driverHush;
        broken = o.broken;
        kicks = o.kicks;
        signals = o.signals;
        upTo = o.upTo;
        upToLength = o.upToLength;
        rowOffered = o.rowOffered.clone();
        rowUsed = o.rowUsed.clone();
        rowLength = o.rowLength.clone();
        tables = new ArrayList<>();
        for (List<Desc> t : o.tables) {
            List<Desc> mine = new ArrayList<>();
            for (Desc d : t) {
                mine.add(desc(d.len, d.flags, d.link));
            }
            tables.add(mine);
        }
        bufs = new ArrayList<>();
        for (Buf b : o.bufs) {
            Buf c = new Buf();
            c.state = b.state;
            c.parts = b.parts;
            c.id = b.id;
            c.table = b.table;
            c.capacity = b.capacity;
            c.load = b.load;
            c.written = b.written;
            c.has = new HashSet<>(b.has);
            c.places = b.places;
            bufs.add(c);
        }
    }

    private static Desc desc(int len, int flags, int link) {
        Desc d = new Desc();
        d.len = len;
        d.flags = flags;
        d.link = link;
        return d;
    }

    private static void set(Desc to, Desc from) {
        to.len = from.len;
        to.flags = from.flags;
        to.link = from.link;
    }

    int free() {
        int free = n;
        for (Buf b : bufs) {
            free -= b.open() ? b.places : 0;
        }
        return free;
    }

    int openCount() {
        return (int) bufs.stream().filter(Buf::open).count();
    }

    private boolean idTaken(int i) {
        return bufs.stream().anyMatch(b -> b.open() && (format == 0 ? b.has.contains(i) : b.id == i));
    }

    private boolean tableTaken(int t) {
        return bufs.stream().anyMatch(b -> b.open() && b.table == t);
    }

    /** Parts: the length, below 0 (less one) if it is written. */
    int offer(List<Integer> parts, boolean indirect) {
        if (broken != 0) {
            return -3;
        }
        if (indirect && features / 2 % 2 == 0) {
            return -4;
        }
        int need = indirect ? 1 : parts.size();
        if (free() < need) {
            return -5;
        }
        List<Integer> ids = new ArrayList<>();
        for (int i = 0; i < n; i++) {
            if (!idTaken(i)) {
                ids.add(i);
            }
        }
        Buf b = new Buf();
        b.id = ids.get(0);
        b.parts = parts.size();
        b.places = need;
        if (indirect) {
            b.table = format == 1 ? b.id % 4 + 1 : 1;
            while (format == 0 && b.table < 5 && tableTaken(b.table)) {
                b.table++;
            }
            if (b.table == 5 || tableTaken(b.table)) {
                return -6;
            }
        }
        if (bufs.size() == 500) {
            return -7;
        }
        List<Desc> laid = new ArrayList<>();
        for (int k = 0; k < parts.size(); k++) {
            int p = parts.get(k);
            boolean last = k == parts.size() - 1;
            laid.add(desc(p < 0 ? -p - 1 : p, (p < 0 ? 2 : 0) + (last ? 0 : 1), last ? 0 : k + 1));
        }
        if (indirect) {
            tables.set(b.table, laid);
            laid = new ArrayList<>(List.of(desc(parts.size(), 4, b.table)));
        }
        for (int k = 0; k < need; k++) {
            Desc d = desc(laid.get(k).len, laid.get(k).flags, laid.get(k).link);
            if (format == 0) {
                d.link = indirect ? b.table : k < need - 1 ? ids.get(k + 1) : 0;
                b.has.add(ids.get(k));
                set(tables.get(0).get(ids.get(k)), d);
            } else {
                int p = (offered + k) % m();
                d.link = b.id;
                d.flags += wrap(p) * 8 + (1 - wrap(p)) * 16;
                set(tables.get(0).get(p % n), d);
            }
        }
        if (format == 0) {
            rowOffered[offered % n] = b.id;
        }
        offered = (offered + (format == 0 ? 1 : need)) % m();
        bufs.add(b);
        return bufs.size() - 1;
    }

    /** What a walk came to: the reason, how many, capacity, load, places of table 0, the last link. */
    private int[] walk(int start, List<Integer> log) {
        int[] w = new int[6];
        boolean[] wrote = new boolean[1];
        log.add(1);
        w[0] = walkOuter(start, w, wrote, log);
        log.add(2);
        return w;
    }

    private int walkOuter(int start, int[] w, boolean[] wrote, List<Integer> log) {
        List<Integer> been = new ArrayList<>();
        int at = start;
        while (true) {
            if (format == 0 && (at < 0 || at >= n)) {
                return 1;
            }
            int place = at % n;
            Desc d = tables.get(0).get(place);
            if (format == 1 && (d.avail() != wrap(at) || d.done() == wrap(at))) {
                return 1;
            }
            if (been.contains(place)) {
                return 2;
            }
            been.add(place);
            w[4]++;
            w[5] = d.link;
            if (d.indirect()) {
                if (features / 2 % 2 == 0) {
                    return 3;
                }
                if (d.next() || been.size() > 1) {
                    return 4;
                }
                int t = format == 0 ? d.link : d.link % 4 + 1;
                if (t < 1 || t > 4 || tables.get(t).size() < d.len || d.len == 0) {
                    return 5;
                }
                log.add(10 * t + 1);
                int r = walkInner(t, d.len, w, wrote);
                log.add(10 * t + 2);
                return r;
            }
            if (wrote[0] && !d.write()) {
                return 6;
            }
            part(d, w, wrote);
            if (!d.next()) {
                return 0;
            }
            at = format == 0 ? d.link : (at + 1) % m();
        }
    }

    private int walkInner(int t, int size, int[] w, boolean[] wrote) {
        List<Integer> been = new ArrayList<>();
        int at = 0;
        while (true) {
            if (at >= size) {
                return 1;
            }
            if (been.contains(at) || format == 1 && been.size() == n) {
                return 2;
            }
            been.add(at);
            Desc d = tables.get(t).get(at);
            if (d.indirect()) {
                return 4;
            }
            if (wrote[0] && !d.write()) {
                return 6;
            }
            part(d, w, wrote);
            if (!d.next()) {
                return 0;
            }
            at = d.link;
        }
    }

    private static void part(Desc d, int[] w, boolean[] wrote) {
        w[1]++;
        w[d.write() ? 2 : 3] += d.len;
        wrote[0] |= d.write();
    }

    int chain(int i) {
        if (format == 1) {
            return -1;
        }
        int[] w = walk(i, new ArrayList<>());
        return w[0] == 0 ? w[1] : -10 - w[0];
    }

    int fetch() {
        if (broken != 0) {
            return -2;
        }
        Desc d = tables.get(0).get(seen % n);
        if (format == 0 ? seen == offered : d.avail() != wrap(seen) || d.done() == wrap(seen)) {
            return -1;
        }
        acts = new ArrayList<>();
        int[] w = walk(format == 0 ? rowOffered[seen % n] : seen, acts);
        int id = format == 0 ? rowOffered[seen % n] : w[5];
        int b = -1;
        for (int k = 0; k < bufs.size(); k++) {
            if (bufs.get(k).state == 0 && bufs.get(k).id == id) {
                b = k;
            }
        }
        int reason = w[0] != 0 ? w[0] : b < 0 ? 7 : 0;
        if (reason != 0) {
            broken = reason;
            return -10 - reason;
        }
        bufs.get(b).state = 1;
        bufs.get(b).capacity = w[2];
        bufs.get(b).load = w[3];
        seen = (seen + (format == 0 ? 1 : w[4])) % m();
        return b;
    }

    int firstFetched() {
        for (int k = 0; k < bufs.size(); k++) {
            if (bufs.get(k).state == 1) {
                return k;
            }
        }
        return -1;
    }

    private int check(int b, int written) {
        if (b < 0 || b >= bufs.size() || bufs.get(b).state != 1) {
            return -1;
        }
        return written < 0 || written > bufs.get(b).capacity ? -2 : 0;
    }

    private void told(int b, int written) {
        bufs.get(b).written = written;
        if (format == 0) {
            rowUsed[used % n] = bufs.get(b).id;
            rowLength[used % n] = written;
        } else {
            set(tables.get(0).get(used % n), desc(written, 24 * wrap(used), bufs.get(b).id));
        }
    }

    private void finished(int b) {
        bufs.get(b).state = 2;
        used = (used + (format == 0 ? 1 : bufs.get(b).places)) % m();
    }

    int finish(int b, int written) {
        int bad = check(b, written);
        if (bad != 0) {
            return bad;
        }
        if (features % 2 == 1 && firstFetched() != b) {
            return -3;
        }
        if (broken != 0) {
            return -4;
        }
        told(b, written);
        finished(b);
        return 0;
    }

    int batch(int b, int written) {
        int bad = check(b, written);
        if (bad != 0) {
            return bad;
        }
        if (features % 2 == 0) {
            return -3;
        }
        if (broken != 0) {
            return -4;
        }
        told(b, written);
        int many = 0;
        for (int k = 0; k <= b; k++) {
            if (bufs.get(k).state == 1) {
                finished(k);
                many++;
            }
        }
        return many;
    }

    int reap() {
        if (upTo < 0) {
            Desc d = tables.get(0).get(taken % n);
            if (format == 0 ? taken == used : d.avail() != wrap(taken) || d.done() != wrap(taken)) {
                return -1;
            }
            int id = format == 0 ? rowUsed[taken % n] : d.link;
            int b = -1;
            for (int k = 0; k < bufs.size(); k++) {
                if (bufs.get(k).state == 2 && bufs.get(k).id == id) {
                    b = k;
                }
            }
            if (b < 0) {
                return -2;
            }
            upTo = b;
            upToLength = format == 0 ? rowLength[taken % n] : d.len;
        }
        int r = upTo;
        if (features % 2 == 1) {
            r = 0;
            while (!bufs.get(r).open()) {
                r++;
            }
        }
        bufs.get(r).state = 3;
        taken = (taken + (format == 0 ? 1 : bufs.get(r).places)) % m();
        length = r == upTo ? upToLength : -1;
        upTo = r == upTo ? -1 : upTo;
        return r;
    }

    int due(int event, int old, int now) {
        if (Math.min(event, Math.min(old, now)) < 0 || Math.max(event, Math.max(old, now)) >= m()) {
            return -1;
        }
        return Math.floorMod(now - event - 1, m()) < Math.floorMod(now - old, m()) ? 1 : 0;
    }

    int kick() {
        int due = features / 4 == 1 ? due(deviceEvent, kickedAt, offered) : kickedAt != offered && deviceHush == 0 ? 1 : 0;
        kickedAt = offered;
        kicks += due;
        return due;
    }

    int signal() {
        int due = features / 4 == 1 ? due(driverEvent, signalledAt, used) : signalledAt != used && driverHush == 0 ? 1 : 0;
        signalledAt = used;
        signals += due;
        return due;
    }

    int event(int side, int k) {
        if (side < 0 || side > 1 || k < 0 || k >= m()) {
            return -1;
        }
        int e = ((side == 1 ? seen : taken) + k) % m();
        if (side == 1) {
            deviceEvent = e;
        } else {
            driverEvent = e;
        }
        return e;
    }

    int hush(int side, int on) {
        if (side < 0 || side > 1 || on < 0 || on > 1) {
            return -1;
        }
        if (side == 1) {
            deviceHush = on;
        } else {
            driverHush = on;
        }
        return 0;
    }

    int reset() {
        drained = new ArrayList<>();
        for (int k = 0; k < bufs.size(); k++) {
            if (bufs.get(k).open()) {
                bufs.get(k).state = 4;
                drained.add(k);
            }
        }
        first();
        return drained.size();
    }

    int descriptor(int t, int i, int what) {
        if (t < 0 || t > 4 || i < 0 || i >= tables.get(t).size() || what < 0 || what > 2) {
            return -1;
        }
        Desc d = tables.get(t).get(i);
        return what == 0 ? d.len : what == 1 ? d.flags : d.link;
    }

    int spoil(int t, int i, int what, int v) {
        int was = descriptor(t, i, what);
        if (was < 0 || v < 0 || v > (what == 0 ? 999 : what == 1 ? 31 : 99)) {
            return -1;
        }
        Desc d = tables.get(t).get(i);
        set(d, desc(what == 0 ? v : d.len, what == 1 ? v : d.flags, what == 2 ? v : d.link));
        return was;
    }

    int row(int place, int what) {
        if (format == 1 || place < 0 || place >= n || what < 0 || what > 2) {
            return -1;
        }
        return what == 0 ? rowOffered[place] : what == 1 ? rowUsed[place] : rowLength[place];
    }

    int buffer(int b, int what) {
        if (b < 0 || b >= bufs.size() || what < 0 || what > 7) {
            return -1;
        }
        Buf f = bufs.get(b);
        return new int[] {f.state, f.parts, f.id, f.table, f.capacity, f.load, f.written, f.places}[what];
    }

    int now(int what) {
        int[] all = {offered, seen, used, taken, free(), bufs.size(), openCount(), broken, kicks, signals,
            deviceEvent, driverEvent, upTo};
        return what < 0 || what > 12 ? -1 : all[what];
    }

    private int draw(int k) {
        x = x * 1103515245 + 12345;
        return (x >>> 8) % k;
    }

    int drawn(int k, int seed) {
        if (k < 1 || k > 60) {
            return -1;
        }
        x = seed;
        int done = 0;
        for (int i = 0; i < k; i++) {
            int deed = draw(8);
            if (deed < 2) {
                List<Integer> parts = new ArrayList<>();
                int reads = draw(3) + 1;
                int writes = draw(2);
                for (int r = 0; r < reads; r++) {
                    parts.add(4);
                }
                for (int r = 0; r < writes; r++) {
                    parts.add(-10);
                }
                done += offer(parts, false) >= 0 ? 1 : 0;
            } else if (deed < 4) {
                done += fetch() >= 0 ? 1 : 0;
            } else if (deed < 6) {
                int b = firstFetched();
                done += b >= 0 && finish(b, draw(10)) == 0 ? 1 : 0;
            } else if (deed == 6) {
                done += reap() >= 0 ? 1 : 0;
            } else {
                done += kick() + signal() > 0 ? 1 : 0;
            }
        }
        return done;
    }
}
