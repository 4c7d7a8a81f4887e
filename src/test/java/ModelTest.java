import java.util.Random;
import java.util.TreeMap;

/** Promises 1 to 25 over long random runs: each answer, and all that can be seen, is that of the model. */
public final class ModelTest {
    private static final int RUNS = 1200;
    private static final int CALLS = 512;
    private static final String[] REACHED = {
        "tick -2", "first -2", "member -2", "mask -2",
        "create -2", "create -3", "create -4", "create -5", "create ok",
        "remove -2", "remove -3", "remove -6", "remove ok",
        "write -2", "write -3", "write -4", "write -5", "write ok",
        "read -2", "read -3", "read ok", "resize -2", "resize -3", "resize ok",
        "chmod -2", "chmod -3", "chmod ok", "chown -2", "chown -3", "chown -5", "chown ok",
        "acl -2", "acl -3", "acl -4", "acl -7", "acl ok", "list -2", "list ok", "may -2", "may ok",
        "feed -2", "feed -4", "feed ok",
        "put -2", "put -3", "put -4", "put -5", "put ok", "take -2", "take -3", "take -7", "take ok",
        "attribute -2", "attribute -3", "attribute -7", "attribute ok", "side -2", "side -7", "side ok",
        "limit -2", "limit ok", "grace -2", "grace ok", "charged -2", "inode -2", "count -2",
    };

    private final Due due = new Due();
    private final TreeMap<String, Integer> seen = new TreeMap<>();
    private Random random;
    private int users;
    private int inodes;
    private int wild;

    public static void main(String[] args) {
        new ModelTest().runs();
    }

    private void runs() {
        for (int run = 0; run < RUNS && !due.failed(); run++) {
            random = new Random(run);
            users = 2 + random.nextInt(5);
            inodes = run % 3 == 0 ? 64 : 3 + random.nextInt(10);
            wild = run % 4 == 0 ? 10 : 100;
            oneRun(run);
        }
        for (String reached : REACHED) {
            due.holds("the runs reach " + reached, seen.containsKey(reached));
        }
        due.end();
    }

    private void oneRun(int run) {
        GuardedInodes x = new GuardedInodes();
        Model model = new Model();
        int style = run % 6;
        if (run % 12 == 1) {
            fillInodes(x, model, "run " + run + " at first: ");
        }
        if (style == 5) {
            fillBlocks(x, model, "run " + run + " at first: ");
        }
        for (int call = 0; call < CALLS && !due.failed(); call++) {
            step(x, model, "run " + run + " call " + call + ": ", method(style));
        }
        if (run % 8 == 0) {
            compareAll(x, model, "run " + run + " at the end: ");
        }
    }

    private void fillInodes(GuardedInodes x, Model m, String at) {
        for (int made = random.nextInt(5); made < 62; made++) {
            int kind = 1 + random.nextInt(2);
            int u = random.nextInt(users);
            same(at, call("create", u, 0, kind, 511), "create", x.create(u, 0, kind, 511), m.create(u, 0, kind, 511));
        }
        inodes = 64;
    }

    /** Leaves few blocks, which random writes alone would not do. */
    private void fillBlocks(GuardedInodes x, Model m, String at) {
        for (int file = 1; file <= 22; file++) {
            same(at, call("create", 1, 0, 1, 511), "create", x.create(1, 0, 1, 511), m.create(1, 0, 1, 511));
        }
        int parts = 250 + random.nextInt(6);
        for (int part = 0; part < parts; part++) {
            int i = 22 - part / 12;
            int place = part % 12 * 64;
            same(at, call("write", 1, i, place, 1, part), "write", x.write(1, i, place, 1, part), m.write(1, i, place, 1, part));
        }
        inodes = 23;
    }

    private int method(int style) {
        int any = random.nextInt(32);
        int pick = random.nextInt(3);
        if (style == 1 && pick > 0) {
            return 4 + random.nextInt(4);
        }
        if (style == 2 && pick > 0) {
            return pick == 1 ? 16 : 17 + random.nextInt(3);
        }
        if (style == 3 && pick > 0) {
            return pick == 1 ? 6 : 20 + random.nextInt(2);
        }
        if (style == 4 && pick > 0) {
            return 11 + random.nextInt(5);
        }
        if (style == 5 && pick > 0) {
            return pick == 1 ? 6 : 4;
        }
        return any;
    }

    private boolean rarely() {
        return random.nextInt(wild) == 0;
    }

    private int odd() {
        int[] odd = {Integer.MIN_VALUE, -8, -3, -2, -1, 16, 17, 32, 63, 64, 512, 769, 1001, 10001, 100001, Integer.MAX_VALUE};
        return odd[random.nextInt(odd.length)];
    }

    private int upTo(int bound) {
        return rarely() ? odd() : random.nextInt(bound);
    }

    private int user() {
        return upTo(users);
    }

    private int node() {
        return random.nextInt(4) == 0 ? upTo(3) : upTo(inodes);
    }

    private int bits(int bound) {
        return random.nextInt(3) == 0 ? bound - 1 : upTo(bound);
    }

    private int limitOf() {
        int kind = random.nextInt(6);
        return kind == 0 ? -1 : rarely() ? odd() : random.nextInt(kind == 1 ? 1001 : 6);
    }

    private int place() {
        return random.nextInt(3) == 0 ? 64 * random.nextInt(13) - random.nextInt(9) : upTo(768);
    }

    private int length() {
        return rarely() ? odd() : 1 + random.nextInt(8);
    }

    private void same(String at, String call, String name, long got, long want) {
        due.is(at + call, got, want);
        seen.merge(name + (want < -1 && !name.equals("read") || want == -2 || want == -3 ? " " + want : " ok"), 1, Integer::sum);
    }

    private static String call(String name, Object... arguments) {
        StringBuilder text = new StringBuilder(name).append('(');
        for (int i = 0; i < arguments.length; i++) {
            text.append(i == 0 ? "" : ", ").append(arguments[i]);
        }
        return text.append(')').toString();
    }

    private void step(GuardedInodes x, Model m, String at, int method) {
        if (method < 4) {
            ofUsers(x, m, at, method);
        } else if (method < 11) {
            ofInodes(x, m, at, method);
        } else if (method < 16) {
            ofRights(x, m, at, method);
        } else if (method < 20) {
            ofAttributes(x, m, at, method);
        } else {
            ofQuotas(x, m, at, method);
        }
    }

    private void ofUsers(GuardedInodes x, Model m, String at, int method) {
        int a = user();
        int b = user();
        boolean is = random.nextBoolean();
        int minutes = rarely() ? odd() : 1 + random.nextInt(random.nextInt(9) == 0 ? 10000 : 5);
        int nine = bits(512) & (rarely() ? -1 : 18);
        switch (method) {
            case 0: same(at, call("tick", minutes), "tick", x.tick(minutes), m.tick(minutes)); break;
            case 1: same(at, call("first", a, b), "first", x.first(a, b), m.first(a, b)); break;
            case 2: same(at, call("member", a, b, is), "member", x.member(a, b, is), m.member(a, b, is)); break;
            default: same(at, call("mask", a, nine), "mask", x.mask(a, nine), m.mask(a, nine)); break;
        }
    }

    private void ofInodes(GuardedInodes x, Model m, String at, int method) {
        int u = user();
        int i = node();
        int place = place();
        int n = length();
        long w = random.nextInt(5) == 0 ? -1 - random.nextInt(4) : random.nextLong();
        int kind = rarely() ? odd() : 1 + random.nextInt(2);
        int mode = bits(kind == 1 ? 512 : 1024);
        int size = upTo(769);
        switch (method) {
            case 4: same(at, call("create", u, i, kind, mode), "create", x.create(u, i, kind, mode), m.create(u, i, kind, mode)); break;
            case 5: same(at, call("remove", u, i), "remove", x.remove(u, i), m.remove(u, i)); break;
            case 6: case 7: same(at, call("write", u, i, place, n, w), "write", x.write(u, i, place, n, w), m.write(u, i, place, n, w)); break;
            case 8: same(at, call("read", u, i, place, n), "read", x.read(u, i, place, n), m.read(u, i, place, n)); break;
            case 9: same(at, call("resize", u, i, size), "resize", x.resize(u, i, size), m.resize(u, i, size)); break;
            default: same(at, call("inode", i, n), "inode", x.inode(i, n), m.inode(i, n)); break;
        }
    }

    private void ofRights(GuardedInodes x, Model m, String at, int method) {
        int u = user();
        int i = node();
        int mode = random.nextInt(2) == 0 ? bits(512) : bits(2048);
        int owner = user();
        int group = user();
        boolean fresh = random.nextInt(3) == 0;
        int kind = upTo(2);
        int id = random.nextInt(8) == 0 ? upTo(16) : user();
        int told = random.nextInt(3) == 0 ? -1 : upTo(8);
        int what = upTo(32);
        int asked = upTo(8);
        switch (method) {
            case 11: same(at, call("chmod", u, i, mode), "chmod", x.chmod(u, i, mode), m.chmod(u, i, mode)); break;
            case 12:
                owner = random.nextInt(2) == 0 ? u : owner;
                same(at, call("chown", u, i, owner, group), "chown", x.chown(u, i, owner, group), m.chown(u, i, owner, group));
                break;
            case 13: same(at, call("acl", u, i, fresh, kind, id, told), "acl", x.acl(u, i, fresh, kind, id, told), m.acl(u, i, fresh, kind, id, told)); break;
            case 14: same(at, call("list", i, fresh, what), "list", x.list(i, fresh, what), m.list(i, fresh, what)); break;
            default: same(at, call("may", u, i, asked), "may", x.may(u, i, asked), m.may(u, i, asked)); break;
        }
        if (method == 13 && random.nextInt(16) == 0) {
            for (int many = 0; many < 10; many++) {
                int other = random.nextInt(16);
                same(at, call("acl", 0, i, fresh, kind, other, 4), "acl", x.acl(0, i, fresh, kind, other, 4), m.acl(0, i, fresh, kind, other, 4));
            }
        }
    }

    private void ofAttributes(GuardedInodes x, Model m, String at, int method) {
        int u = user();
        int i = node();
        int a = random.nextInt(3) == 0 ? upTo(32) : upTo(8);
        int k = rarely() ? odd() : random.nextInt(12) - 1;
        switch (method) {
            case 16:
                for (int many = random.nextInt(random.nextInt(4) == 0 ? 40 : 12); many >= 0; many--) {
                    int b = rarely() ? odd() : random.nextInt(256);
                    same(at, call("feed", b), "feed", x.feed(b), m.feed(b));
                }
                break;
            case 17: same(at, call("put", u, i, a), "put", x.put(u, i, a), m.put(u, i, a)); break;
            case 18: same(at, call("take", u, i, a), "take", x.take(u, i, a), m.take(u, i, a)); break;
            default:
                same(at, call("attribute", u, i, a, k), "attribute", x.attribute(u, i, a, k), m.attribute(u, i, a, k));
                same(at, call("side", i, a), "side", x.side(i, a), m.side(i, a));
                break;
        }
    }

    private void ofQuotas(GuardedInodes x, Model m, String at, int method) {
        int kind = upTo(2);
        int id = user();
        int what = upTo(2);
        int soft = limitOf();
        int hard = random.nextInt(3) == 0 ? -1 : limitOf();
        int minutes = rarely() ? odd() : random.nextInt(8);
        int field = upTo(4);
        switch (method) {
            case 20: same(at, call("limit", kind, id, what, soft, hard), "limit", x.limit(kind, id, what, soft, hard), m.limit(kind, id, what, soft, hard)); break;
            case 21: same(at, call("grace", kind, what, minutes), "grace", x.grace(kind, what, minutes), m.grace(kind, what, minutes)); break;
            case 22: same(at, call("count", field), "count", x.count(field), m.count(field)); break;
            default: same(at, call("charged", kind, id, field), "charged", x.charged(kind, id, field), m.charged(kind, id, field)); break;
        }
    }

    /** Looks at everything: what an object answers beyond its 512th call is free, but this one holds on. */
    private void compareAll(GuardedInodes x, Model m, String at) {
        for (int what = 0; what < 3; what++) {
            due.is(at + call("count", what), x.count(what), m.count(what));
        }
        for (int id = 0; id < 16; id++) {
            for (int what = 0; what < 4; what++) {
                due.is(at + call("charged", 0, id, what), x.charged(0, id, what), m.charged(0, id, what));
                due.is(at + call("charged", 1, id, what), x.charged(1, id, what), m.charged(1, id, what));
            }
        }
        for (int i = 0; i < 64; i++) {
            for (int what = 0; what < 32; what++) {
                due.is(at + call("inode", i, what), x.inode(i, what), m.inode(i, what));
                due.is(at + call("list", i, false, what), x.list(i, false, what), m.list(i, false, what));
                due.is(at + call("list", i, true, what), x.list(i, true, what), m.list(i, true, what));
                due.is(at + call("side", i, what), x.side(i, what), m.side(i, what));
                due.is(at + call("attribute", 0, i, what, -1), x.attribute(0, i, what, -1), m.attribute(0, i, what, -1));
            }
            for (int u = 0; u < users; u++) {
                for (int asked = 0; asked < 8; asked++) {
                    due.is(at + call("may", u, i, asked), x.may(u, i, asked), m.may(u, i, asked));
                }
            }
            for (int place = 0; place < 768; place += 8) {
                due.is(at + call("read", 0, i, place, 8), x.read(0, i, place, 8), m.read(0, i, place, 8));
            }
        }
    }
}
