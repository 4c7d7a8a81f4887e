import java.util.Arrays;
import java.util.HashSet;
import java.util.Set;
import java.util.TreeMap;
import java.util.TreeSet;

/**
 * The document told a second time, without regard to room or to the rules of language: refusals are thrown,
 * charges are made one by one and taken back, bits are asked one by one.
 */
final class Model {
    private static final class Refusal extends RuntimeException {
        private static final long serialVersionUID = 1L;
        final int answer;

        Refusal(int answer) {
            super(null, null, false, false);
            this.answer = answer;
        }
    }

    private interface Act {
        long answer();
    }

    private static final class Listed {
        final TreeMap<Integer, Integer> entries = new TreeMap<>();
        int limit;
        int group;
        int owner;
        int others;

        Listed copy() {
            Listed same = new Listed();
            same.entries.putAll(entries);
            same.limit = limit;
            same.group = group;
            same.owner = owner;
            same.others = others;
            return same;
        }

        void limitAnew() {
            limit = group;
            for (int bits : entries.values()) {
                limit |= bits;
            }
        }
    }

    private static final class Node {
        int kind;
        int folder;
        int owner;
        int group;
        int ownerBits;
        int groupBits;
        int othersBits;
        boolean sticky;
        boolean handedOn;
        int size;
        int side = -1;
        final byte[] data = new byte[768];
        final TreeMap<Integer, Integer> parts = new TreeMap<>();
        final TreeMap<Integer, int[]> attributes = new TreeMap<>();
        Listed list;
        Listed fresh;

        int mode() {
            int shown = list != null ? list.limit : groupBits;
            return ownerBits * 64 + shown * 8 + othersBits + (sticky ? 512 : 0) + (handedOn ? 1024 : 0);
        }

        int blocks() {
            return parts.size() + (side >= 0 ? 1 : 0);
        }
    }

    private int now;
    private final int[] firsts = new int[16];
    private final Set<Integer> members = new HashSet<>();
    private final int[] masks = new int[16];
    private final TreeMap<Integer, Node> nodes = new TreeMap<>();
    private final TreeSet<Integer> unused = new TreeSet<>();
    private int[] charges = new int[64];
    private int[] times = new int[64];
    private final int[] softs = new int[64];
    private final int[] hards = new int[64];
    private final int[] graces = new int[4];
    private int[] value = new int[0];

    Model() {
        for (int i = 0; i < 16; i++) {
            firsts[i] = i;
        }
        for (int i = 0; i < 256; i++) {
            unused.add(i);
        }
        Arrays.fill(times, -1);
        Arrays.fill(softs, -1);
        Arrays.fill(hards, -1);
        Node root = new Node();
        root.kind = 2;
        root.ownerBits = root.groupBits = root.othersBits = 7;
        nodes.put(0, root);
    }

    private long done(Act act) {
        int[] chargesWere = charges.clone();
        int[] timesWere = times.clone();
        try {
            return act.answer();
        } catch (Refusal refusal) {
            charges = chargesWere;
            times = timesWere;
            return refusal.answer;
        }
    }

    private static void need(boolean holds, int elseAnswer) {
        if (!holds) {
            throw new Refusal(elseAnswer);
        }
    }

    private static void within(int number, int least, int most) {
        need(number >= least && number <= most, -2);
    }

    private Node node(int inode) {
        need(nodes.containsKey(inode), -2);
        return nodes.get(inode);
    }

    private Node file(int inode) {
        need(node(inode).kind == 1, -2);
        return node(inode);
    }

    private boolean in(int user, int group) {
        return firsts[user] == group || members.contains(user * 16 + group);
    }

    private boolean may(int user, Node it, int x) {
        Listed list = it.list;
        if (user == 0) {
            if (it.kind == 2 || x % 2 == 0) {
                return true;
            }
            boolean some = it.ownerBits % 2 == 1 || it.mode() / 8 % 2 == 1 || it.othersBits % 2 == 1;
            if (list != null) {
                some |= list.group % 2 == 1;
                for (int bits : list.entries.values()) {
                    some |= bits % 2 == 1;
                }
            }
            return some;
        }
        if (it.owner == user) {
            return all(it.ownerBits, x);
        }
        if (list != null && list.entries.containsKey(user)) {
            return all(list.entries.get(user), x) && all(list.limit, x);
        }
        TreeSet<Integer> had = new TreeSet<>();
        if (in(user, it.group)) {
            had.add(list == null ? it.groupBits : list.group);
        }
        if (list != null) {
            list.entries.forEach((key, bits) -> {
                if (key >= 16 && in(user, key - 16)) {
                    had.add(bits);
                }
            });
        }
        if (had.isEmpty()) {
            return all(it.othersBits, x);
        }
        return had.stream().anyMatch(bits -> all(bits, x)) && (list == null || all(list.limit, x));
    }

    private static boolean all(int bits, int x) {
        for (int bit = 1; bit <= 4; bit *= 2) {
            if ((x & bit) != 0 && (bits & bit) == 0) {
                return false;
            }
        }
        return true;
    }

    private void chargeOne(int actor, int kind, int id, int what) {
        int i = kind * 32 + id * 2 + what;
        int then = charges[i] + 1;
        boolean over = hards[i] >= 0 && then > hards[i];
        boolean out = softs[i] >= 0 && then > softs[i] && times[i] >= 0 && now >= times[i];
        need(actor == 0 || !(over || out), -5);
        charges[i] = then;
        timeOf(i);
    }

    private void giveBackOne(int kind, int id, int what) {
        int i = kind * 32 + id * 2 + what;
        charges[i]--;
        timeOf(i);
    }

    private void timeOf(int i) {
        boolean over = softs[i] >= 0 && charges[i] > softs[i];
        if (over && times[i] < 0) {
            times[i] = now + graces[i / 32 * 2 + i % 2];
        }
        if (!over) {
            times[i] = -1;
        }
    }

    private void chargeBoth(int actor, int inode, Node it, int what) {
        if (inode != 0) {
            chargeOne(actor, 0, it.owner, what);
            chargeOne(actor, 1, it.group, what);
        }
    }

    private void giveBackBoth(int inode, Node it, int what) {
        if (inode != 0) {
            giveBackOne(0, it.owner, what);
            giveBackOne(1, it.group, what);
        }
    }

    long tick(int minutes) {
        if (minutes < 1 || minutes > 10000) {
            return -2;
        }
        now = now + minutes > 1000000 ? 1000000 : now + minutes;
        return now;
    }

    long first(int user, int group) {
        return done(() -> {
            within(user, 0, 15);
            within(group, 0, 15);
            int was = firsts[user];
            firsts[user] = group;
            return was;
        });
    }

    long member(int user, int group, boolean is) {
        return done(() -> {
            within(user, 0, 15);
            within(group, 0, 15);
            boolean was = members.contains(user * 16 + group);
            if (is) {
                members.add(user * 16 + group);
            } else {
                members.remove(user * 16 + group);
            }
            return was ? 1 : 0;
        });
    }

    long mask(int user, int bits) {
        return done(() -> {
            within(user, 0, 15);
            within(bits, 0, 511);
            int was = masks[user];
            masks[user] = bits;
            return was;
        });
    }

    long create(int user, int folder, int kind, int mode) {
        return done(() -> {
            within(user, 0, 15);
            within(kind, 1, 2);
            within(mode, 0, kind == 1 ? 511 : 1023);
            Node in = node(folder);
            need(in.kind == 2, -2);
            need(may(user, in, 3), -3);
            need(nodes.size() < 64, -4);
            int number = 0;
            while (nodes.containsKey(number)) {
                number++;
            }
            Node made = new Node();
            made.kind = kind;
            made.folder = folder;
            made.owner = user;
            made.group = in.handedOn ? in.group : firsts[user];
            made.handedOn = in.handedOn && kind == 2;
            made.sticky = mode >= 512;
            chargeBoth(user, number, made, 1);
            Listed fresh = in.fresh;
            if (fresh == null) {
                made.ownerBits = mode / 64 % 8 & ~(masks[user] / 64);
                made.groupBits = mode / 8 % 8 & ~(masks[user] / 8 % 8);
                made.othersBits = mode % 8 & ~(masks[user] % 8);
            } else {
                made.list = fresh.copy();
                made.ownerBits = fresh.owner & mode / 64 % 8;
                made.list.limit = fresh.limit & mode / 8 % 8;
                made.othersBits = fresh.others & mode % 8;
                if (kind == 2) {
                    made.fresh = fresh.copy();
                }
            }
            nodes.put(number, made);
            return number;
        });
    }

    long remove(int user, int inode) {
        return done(() -> {
            within(user, 0, 15);
            Node gone = node(inode);
            need(inode != 0, -2);
            Node in = node(gone.folder);
            need(may(user, in, 3), -3);
            need(!in.sticky || user == 0 || user == gone.owner || user == in.owner, -3);
            need(lying(inode) == 0, -6);
            for (int i = gone.blocks(); i > 0; i--) {
                giveBackBoth(inode, gone, 0);
            }
            giveBackBoth(inode, gone, 1);
            unused.addAll(gone.parts.values());
            if (gone.side >= 0) {
                unused.add(gone.side);
            }
            nodes.remove(inode);
            return 0;
        });
    }

    private int lying(int folder) {
        int lying = 0;
        for (int inode : nodes.keySet()) {
            if (inode != 0 && nodes.get(inode).folder == folder) {
                lying++;
            }
        }
        return lying;
    }

    long write(int user, int inode, int place, int n, long w) {
        return done(() -> {
            within(user, 0, 15);
            Node it = file(inode);
            within(n, 1, 8);
            within(place, 0, 768 - n);
            need(may(user, it, 2), -3);
            TreeSet<Integer> lacking = new TreeSet<>();
            for (int at = place; at < place + n; at++) {
                if (!it.parts.containsKey(at / 64)) {
                    lacking.add(at / 64);
                }
            }
            need(lacking.size() <= unused.size(), -4);
            for (int i = 0; i < lacking.size(); i++) {
                chargeBoth(user, inode, it, 0);
            }
            for (int part : lacking) {
                it.parts.put(part, unused.pollFirst());
            }
            long rest = w;
            for (int at = place + n - 1; at >= place; at--) {
                it.data[at] = (byte) rest;
                rest >>= 8;
            }
            it.size = Math.max(it.size, place + n);
            return it.size;
        });
    }

    long read(int user, int inode, int place, int n) {
        return done(() -> {
            within(user, 0, 15);
            Node it = file(inode);
            within(n, 1, 8);
            within(place, 0, 768 - n);
            need(may(user, it, 4), -3);
            long word = 0;
            for (int at = place; at < place + n; at++) {
                word = word * 256 + (it.data[at] & 255);
            }
            return word;
        });
    }

    long resize(int user, int inode, int size) {
        return done(() -> {
            within(user, 0, 15);
            Node it = file(inode);
            within(size, 0, 768);
            need(may(user, it, 2), -3);
            int was = it.size;
            it.size = size;
            for (int at = size; at < 768; at++) {
                it.data[at] = 0;
            }
            for (int part = 0; part < 12; part++) {
                if (part * 64 >= size && it.parts.containsKey(part)) {
                    unused.add(it.parts.remove(part));
                    giveBackBoth(inode, it, 0);
                }
            }
            return was;
        });
    }

    long chmod(int user, int inode, int mode) {
        return done(() -> {
            within(user, 0, 15);
            Node it = node(inode);
            within(mode, 0, it.kind == 1 ? 511 : 2047);
            need(user == 0 || user == it.owner, -3);
            int was = it.mode();
            it.ownerBits = mode / 64 % 8;
            if (it.list != null) {
                it.list.limit = mode / 8 % 8;
            } else {
                it.groupBits = mode / 8 % 8;
            }
            it.othersBits = mode % 8;
            it.sticky = mode / 512 % 2 == 1;
            it.handedOn = mode / 1024 == 1;
            return was;
        });
    }

    long chown(int user, int inode, int owner, int group) {
        return done(() -> {
            within(user, 0, 15);
            Node it = node(inode);
            within(inode, 1, 63);
            within(owner, 0, 15);
            within(group, 0, 15);
            if (user != 0) {
                need(user == it.owner, -3);
                need(owner == it.owner, -3);
                need(in(user, group), -3);
            }
            for (int kind = 0; kind < 2; kind++) {
                int from = kind == 0 ? it.owner : it.group;
                int to = kind == 0 ? owner : group;
                for (int i = 0; from != to && i <= it.blocks(); i++) {
                    chargeOne(user, kind, to, i == 0 ? 1 : 0);
                    giveBackOne(kind, from, i == 0 ? 1 : 0);
                }
            }
            it.owner = owner;
            it.group = group;
            return 0;
        });
    }

    long acl(int user, int inode, boolean fresh, int kind, int id, int bits) {
        return done(() -> {
            within(user, 0, 15);
            Node it = node(inode);
            within(kind, 0, 1);
            within(id, 0, 15);
            within(bits, -1, 7);
            need(!fresh || it.kind == 2, -2);
            need(user == 0 || user == it.owner, -3);
            Listed list = fresh ? it.fresh : it.list;
            int key = kind * 16 + id;
            if (bits < 0) {
                need(list != null && list.entries.containsKey(key), -7);
                list.entries.remove(key);
            } else {
                need(list == null || list.entries.size() < 8 || list.entries.containsKey(key), -4);
                if (list == null) {
                    list = new Listed();
                    list.owner = it.ownerBits;
                    list.group = it.mode() / 8 % 8;
                    list.others = it.othersBits;
                }
                list.entries.put(key, bits);
            }
            list.limitAnew();
            boolean stays = !list.entries.isEmpty();
            if (fresh) {
                it.fresh = stays ? list : null;
            } else {
                it.list = stays ? list : null;
                it.groupBits = list.group;
            }
            return list.entries.size();
        });
    }

    long list(int inode, boolean fresh, int what) {
        return done(() -> {
            Node it = node(inode);
            need(what >= 0, -2);
            Listed list = fresh ? it.fresh : it.list;
            if (list == null) {
                return what == 0 ? 0 : -1;
            }
            int[] row = new int[5 + list.entries.size() * 3];
            row[0] = list.entries.size();
            row[1] = list.limit;
            row[2] = list.group;
            row[3] = fresh ? list.owner : it.ownerBits;
            row[4] = fresh ? list.others : it.othersBits;
            int at = 5;
            for (int key : list.entries.keySet()) {
                row[at++] = key / 16;
                row[at++] = key % 16;
                row[at++] = list.entries.get(key);
            }
            return what < row.length ? row[what] : -1;
        });
    }

    long may(int user, int inode, int x) {
        return done(() -> {
            within(user, 0, 15);
            Node it = node(inode);
            within(x, 0, 7);
            return may(user, it, x) ? 1 : 0;
        });
    }

    long feed(int b) {
        return done(() -> {
            within(b, 0, 255);
            need(value.length < 60, -4);
            value = Arrays.copyOf(value, value.length + 1);
            value[value.length - 1] = b;
            return value.length;
        });
    }

    /** Where each lies: 0 in the tail, 1 beside; null if some lies in neither. */
    private static TreeMap<Integer, Integer> lie(TreeMap<Integer, int[]> attributes) {
        TreeMap<Integer, Integer> sides = new TreeMap<>();
        int[] left = {40, 64};
        for (int number : attributes.keySet()) {
            int needs = attributes.get(number).length + 3;
            int side = needs <= left[0] ? 0 : 1;
            left[side] -= needs;
            if (left[side] < 0) {
                return null;
            }
            sides.put(number, side);
        }
        return sides;
    }

    private void attributesBecome(int user, int inode, TreeMap<Integer, int[]> then) {
        Node it = node(inode);
        TreeMap<Integer, Integer> sides = lie(then);
        need(sides != null, -4);
        boolean beside = sides.containsValue(1);
        if (beside && it.side < 0) {
            need(!unused.isEmpty(), -4);
            chargeBoth(user, inode, it, 0);
            it.side = unused.pollFirst();
        }
        if (!beside && it.side >= 0) {
            giveBackBoth(inode, it, 0);
            unused.add(it.side);
            it.side = -1;
        }
        it.attributes.clear();
        it.attributes.putAll(then);
    }

    private void mayTouch(int user, int inode, int attribute, int x) {
        within(user, 0, 15);
        Node it = node(inode);
        within(attribute, 0, 31);
        need(attribute < 16 || user == 0, -3);
        need(may(user, it, x), -3);
    }

    long put(int user, int inode, int attribute) {
        return done(() -> {
            mayTouch(user, inode, attribute, 2);
            TreeMap<Integer, int[]> then = new TreeMap<>(node(inode).attributes);
            then.put(attribute, value);
            attributesBecome(user, inode, then);
            int length = value.length;
            value = new int[0];
            return length;
        });
    }

    long take(int user, int inode, int attribute) {
        return done(() -> {
            mayTouch(user, inode, attribute, 2);
            TreeMap<Integer, int[]> then = new TreeMap<>(node(inode).attributes);
            int[] was = then.remove(attribute);
            need(was != null, -7);
            attributesBecome(user, inode, then);
            return was.length;
        });
    }

    long attribute(int user, int inode, int attribute, int k) {
        return done(() -> {
            need(k >= -1, -2);
            mayTouch(user, inode, attribute, 4);
            int[] bytes = node(inode).attributes.get(attribute);
            need(bytes != null, -7);
            return k < 0 ? bytes.length : k < bytes.length ? bytes[k] : -1;
        });
    }

    long side(int inode, int attribute) {
        return done(() -> {
            Node it = node(inode);
            within(attribute, 0, 31);
            need(it.attributes.containsKey(attribute), -7);
            return lie(it.attributes).get(attribute);
        });
    }

    long limit(int kind, int id, int what, int soft, int hard) {
        return done(() -> {
            within(kind, 0, 1);
            within(id, 0, 15);
            within(what, 0, 1);
            within(soft, -1, 1000);
            within(hard, -1, 1000);
            int i = kind * 32 + id * 2 + what;
            softs[i] = soft;
            hards[i] = hard;
            timeOf(i);
            return 0;
        });
    }

    long grace(int kind, int what, int minutes) {
        return done(() -> {
            within(kind, 0, 1);
            within(what, 0, 1);
            within(minutes, 0, 100000);
            int was = graces[kind * 2 + what];
            graces[kind * 2 + what] = minutes;
            return was;
        });
    }

    long charged(int kind, int id, int what) {
        return done(() -> {
            within(kind, 0, 1);
            within(id, 0, 15);
            within(what, 0, 3);
            return what >= 2 ? times[kind * 32 + id * 2 + what - 2] : sum(kind, id, what);
        });
    }

    /** Counted anew from what is there, so that charges and inodes can't part. */
    private int sum(int kind, int id, int what) {
        int sum = 0;
        for (int inode : nodes.keySet()) {
            Node it = nodes.get(inode);
            if (inode != 0 && (kind == 0 ? it.owner : it.group) == id) {
                sum += what == 1 ? 1 : it.blocks();
            }
        }
        return sum;
    }

    long inode(int inode, int what) {
        return done(() -> {
            Node it = node(inode);
            within(what, 0, 20);
            if (what >= 9) {
                return it.parts.getOrDefault(what - 9, -1);
            }
            int[] row = {it.kind, it.owner, it.group, it.mode(), it.size, it.folder, lying(inode), it.blocks(), it.side};
            return row[what];
        });
    }

    long count(int what) {
        return done(() -> {
            within(what, 0, 2);
            return new int[] {now, unused.size(), 64 - nodes.size()}[what];
        });
    }
}
