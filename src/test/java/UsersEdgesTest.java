/** The boundary cases of promises 1 to 5: a new object, tick, first, member, mask. */
public final class UsersEdgesTest {
    private static final int NONE = GuardedInodes.NONE, BAD = GuardedInodes.BAD, MISSING = GuardedInodes.MISSING;
    private static final int LEAST = Integer.MIN_VALUE, MOST = Integer.MAX_VALUE;
    private static final Due DUE = new Due();
    private static final Twins NEW = new Twins(DUE, x -> { });

    public static void main(String[] args) {
        aNewObjectHasTheRootAlone();
        aNewObjectHasNothingCharged();
        aNewObjectHasUsersAsAtFirst();
        aNewObjectHasNoLimits();
        aNewObjectHasAnEmptyValue();
        minutesOfATick();
        nowStaysAtItsLast();
        idsOfFirst();
        firstTellsWhatItWas();
        idsOfMember();
        memberIsBesides();
        usersOfMask();
        bitsOfMask();
        everyBitOfAMaskCounts();
        DUE.end();
    }

    private static void aNewObjectHasTheRootAlone() {
        GuardedInodes x = new GuardedInodes();
        int[] root = {2, 0, 0, 511, 0, 0, 0, 0, NONE};
        for (int what = 0; what <= 20; what++) {
            DUE.is("the root's field " + what, x.inode(0, what), what < root.length ? root[what] : NONE);
        }
        for (int inode = 1; inode < 64; inode++) {
            DUE.is("inode " + inode + " is not there", x.inode(inode, 0), BAD);
        }
        for (int attribute = 0; attribute < 32; attribute++) {
            DUE.is("the root has no attribute", x.side(0, attribute), MISSING);
        }
        DUE.is("blocks not used", x.count(1), 256);
        DUE.is("inodes not used", x.count(2), 63);
    }

    private static void aNewObjectHasNothingCharged() {
        for (int id = 0; id < 16; id++) {
            for (int what = 0; what < 4; what++) {
                int user = id;
                int field = what;
                NEW.takes("charged to user " + id + ": " + what, x -> x.charged(0, user, field), what < 2 ? 0 : NONE);
                NEW.takes("charged to group " + id + ": " + what, x -> x.charged(1, user, field), what < 2 ? 0 : NONE);
            }
        }
    }

    private static void aNewObjectHasUsersAsAtFirst() {
        for (int id = 0; id < 16; id++) {
            int user = id;
            NEW.takes("first group of " + id, x -> x.first(user, 0), id);
            NEW.takes("mask of " + id, x -> x.mask(user, 0), 0);
            for (int group = 0; group < 16; group++) {
                int other = group;
                NEW.takes("whether " + id + " is in " + group, x -> x.member(user, other, true), 0);
            }
        }
        for (int kind = 0; kind < 2; kind++) {
            int ofKind = kind;
            NEW.takes("grace of blocks", x -> x.grace(ofKind, 0, 1), 0);
            NEW.takes("grace of inodes", x -> x.grace(ofKind, 1, 1), 0);
        }
    }

    private static void aNewObjectHasNoLimits() {
        GuardedInodes x = new GuardedInodes();
        for (int made = 1; made <= 63; made++) {
            DUE.is("no limit of inodes", x.create(15, 0, 1, 0600), made);
        }
        for (int part = 0; part < 256; part++) {
            DUE.is("no limit of blocks", x.write(15, 1 + part / 12, part % 12 * 64, 1, 1), part % 12 * 64 + 1);
        }
    }

    private static void aNewObjectHasAnEmptyValue() {
        NEW.takes("the first byte fed", x -> x.feed(0), 1);
        NEW.takes("the value put", x -> x.put(0, 0, 0), 0);
    }

    private static void minutesOfATick() {
        NEW.takes("the least", x -> x.tick(1), 1);
        NEW.takes("the most", x -> x.tick(10000), 10000);
        NEW.bad("minutes", (x, minutes) -> x.tick(minutes), 0, 10001, -1, 1000000, LEAST, MOST);
        NEW.takes("one after another", x -> x.tick(7) * 100000L + x.tick(5), 700012);
    }

    private static void toMinute(GuardedInodes x, int minute) {
        for (int left = minute; left > 0; left -= Math.min(left, 10000)) {
            x.tick(Math.min(left, 10000));
        }
    }

    private static void nowStaysAtItsLast() {
        Twins before = new Twins(DUE, x -> toMinute(x, 999999));
        before.takes("just to the last", x -> x.tick(1), 1000000);
        before.takes("one too many", x -> x.tick(2), 1000000);
        before.takes("many too many", x -> x.tick(10000), 1000000);
        before.takes("now", x -> x.tick(2) * 0 + x.count(0), 1000000);
        Twins earlier = new Twins(DUE, x -> toMinute(x, 990000));
        earlier.takes("one before the last", x -> x.tick(9999), 999999);
        earlier.takes("just to the last", x -> x.tick(10000), 1000000);
        Twins last = new Twins(DUE, x -> toMinute(x, 1000000));
        last.takes("at the last", x -> x.tick(1), 1000000);
        last.takes("at the last", x -> x.tick(10000), 1000000);
        last.bad("minutes at the last", (x, minutes) -> x.tick(minutes), 0, 10001, LEAST, MOST);
    }

    private static void idsOfFirst() {
        for (int user : new int[] {0, 15}) {
            for (int group : new int[] {0, 15}) {
                NEW.takes("first(" + user + ", " + group + ")", x -> x.first(user, group), user);
            }
        }
        NEW.bad("user", (x, user) -> x.first(user, 3), -1, 16, LEAST, MOST);
        NEW.bad("group", (x, group) -> x.first(3, group), -1, 16, LEAST, MOST);
        NEW.bad("both", (x, id) -> x.first(id, id), -1, 16, LEAST, MOST);
    }

    private static void firstTellsWhatItWas() {
        Twins told = new Twins(DUE, x -> x.first(15, 0));
        told.takes("what it was", x -> x.first(15, 4), 0);
        told.takes("the same again", x -> x.first(15, 0) * 100 + x.first(15, 0), 0);
        told.takes("of another", x -> x.first(14, 0), 14);
        told.takes("the former is none besides", x -> x.member(15, 15, true), 0);
        told.takes("nor is the first", x -> x.member(15, 0, true), 0);
        told.bad("group told anew", (x, group) -> x.first(15, group), -1, 16);
    }

    private static void idsOfMember() {
        for (int user : new int[] {0, 15}) {
            for (int group : new int[] {0, 15}) {
                NEW.takes("member(" + user + ", " + group + ", true)", x -> x.member(user, group, true), 0);
                NEW.takes("and again", x -> x.member(user, group, true) + x.member(user, group, false), 1);
            }
        }
        Twins told = new Twins(DUE, x -> x.member(3, 4, true));
        for (boolean is : new boolean[] {true, false}) {
            told.bad("user", (x, user) -> x.member(user, 4, is), -1, 16, LEAST, MOST);
            told.bad("group", (x, group) -> x.member(3, group, is), -1, 16, 32, 36, LEAST, MOST);
        }
    }

    private static void memberIsBesides() {
        Twins told = new Twins(DUE, x -> {
            x.create(1, 0, 1, 0070);
            x.member(2, 1, true);
            x.member(1, 1, true);
        });
        told.takes("in by that", x -> x.may(2, 1, 7), 1);
        told.takes("no longer", x -> x.member(2, 1, false) + x.may(2, 1, 7), 1);
        told.takes("also in what is the first", x -> x.first(1, 9) + x.member(1, 1, false), 2);
        told.takes("not in by the group before or behind", x -> x.member(3, 0, true) + x.member(3, 2, true) + x.may(3, 1, 7), 0);
        told.takes("another is not", x -> x.member(3, 1, false), 0);
    }

    private static void usersOfMask() {
        NEW.takes("the least user", x -> x.mask(0, 7) + x.mask(0, 0), 7);
        NEW.takes("the last user", x -> x.mask(15, 7) + x.mask(15, 0), 7);
        NEW.bad("user", (x, user) -> x.mask(user, 7), -1, 16, LEAST, MOST);
    }

    private static void bitsOfMask() {
        Twins told = new Twins(DUE, x -> x.mask(5, 18));
        told.takes("none", x -> x.mask(5, 0) * 1000 + x.mask(5, 1), 18000);
        told.takes("all", x -> x.mask(5, 511) * 1000 + x.mask(5, 1), 18511);
        told.bad("bits", (x, bits) -> x.mask(5, bits), -1, 512, 1024, LEAST, MOST);
        told.bad("user and bits", (x, bits) -> x.mask(16, bits), -1, 512);
    }

    private static void everyBitOfAMaskCounts() {
        for (int bit = 0; bit < 9; bit++) {
            int bits = 1 << bit;
            Twins masked = new Twins(DUE, x -> x.mask(5, bits));
            masked.takes("a file without bit " + bit, x -> x.create(5, 0, 1, 511) * 1000 + x.inode(1, 3), 1000 + 511 - bits);
            masked.takes("a folder without bit " + bit, x -> x.create(5, 0, 2, 1023) * 2000 + x.inode(1, 3), 2000 + 1023 - bits);
            masked.takes("chmod tells bit " + bit, x -> x.create(5, 0, 1, 0) + x.chmod(5, 1, 511) + x.inode(1, 3), 512);
        }
    }
}
