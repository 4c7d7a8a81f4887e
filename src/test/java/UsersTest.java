/** Promises 1 to 5: a new object, tick, first, member, mask. */
public final class UsersTest {
    private static final int NONE = GuardedInodes.NONE, BAD = GuardedInodes.BAD;
    private static final int[] NO_ID = {-1, 16, Integer.MIN_VALUE, Integer.MAX_VALUE};
    private static final Due DUE = new Due();

    public static void main(String[] args) {
        promise1();
        promise2();
        promise3();
        promise4();
        promise5();
        DUE.end();
    }

    private static void promise1() {
        GuardedInodes x = new GuardedInodes();
        int[] root = {2, 0, 0, 511, 0, 0, 0, 0, NONE};
        for (int what = 0; what < root.length; what++) {
            DUE.is("inode(0, " + what + ") of a new object", x.inode(0, what), root[what]);
        }
        for (int what = 9; what <= 20; what++) {
            DUE.is("inode(0, " + what + ") of a new object", x.inode(0, what), NONE);
        }
        for (int inode = 1; inode < 64; inode++) {
            DUE.is("inode(" + inode + ", 0) of a new object", x.inode(inode, 0), BAD);
        }
        for (int kind = 0; kind < 2; kind++) {
            for (int id = 0; id < 16; id++) {
                for (int what = 0; what < 4; what++) {
                    DUE.is("charged(" + kind + ", " + id + ", " + what + ")", x.charged(kind, id, what), what < 2 ? 0 : NONE);
                }
            }
        }
        DUE.is("list of a new root", x.list(0, false, 0), 0);
        DUE.is("list for new ones of a new root", x.list(0, true, 0), 0);
        DUE.is("count(0)", x.count(0), 0);
        DUE.is("count(1)", x.count(1), 256);
        DUE.is("count(2)", x.count(2), 63);
        GuardedInodes other = new GuardedInodes();
        other.create(1, 0, 1, 0);
        other.tick(5);
        other.feed(1);
        DUE.is("objects share nothing: inodes", x.count(2), 63);
        DUE.is("objects share nothing: now", x.count(0), 0);
        DUE.is("objects share nothing: the value", x.feed(1), 1);
    }

    private static void promise2() {
        GuardedInodes x = new GuardedInodes();
        for (int minutes : new int[] {0, -1, 10001, Integer.MIN_VALUE, Integer.MAX_VALUE}) {
            DUE.is("tick(" + minutes + ")", x.tick(minutes), BAD);
        }
        DUE.is("count(0) after bad ticks", x.count(0), 0);
        DUE.is("tick(1)", x.tick(1), 1);
        DUE.is("tick(9999)", x.tick(9999), 10000);
        for (int i = 2; i <= 100; i++) {
            DUE.is("tick(10000)", x.tick(10000), i * 10000);
        }
        DUE.is("tick(1) at the last minute", x.tick(1), 1000000);
        DUE.is("tick(10000) at the last minute", x.tick(10000), 1000000);
        DUE.is("tick(10001) at the last minute", x.tick(10001), BAD);
        DUE.is("count(0) at the last minute", x.count(0), 1000000);
    }

    private static void promise3() {
        GuardedInodes x = new GuardedInodes();
        for (int user = 0; user < 16; user++) {
            DUE.is("first(" + user + ", 15)", x.first(user, 15 - user), user);
            DUE.is("first(" + user + ", 15) again", x.first(user, 15), 15 - user);
        }
        for (int wrong : NO_ID) {
            DUE.is("first(" + wrong + ", 0)", x.first(wrong, 0), BAD);
            DUE.is("first(0, " + wrong + ")", x.first(0, wrong), BAD);
        }
        DUE.is("first(0, 0) after bad ones", x.first(0, 0), 15);
        DUE.is("create by a user of group 15", x.create(3, 0, 1, 0), 1);
        DUE.is("group of a new inode", x.inode(1, 2), 15);
    }

    private static void promise4() {
        GuardedInodes x = new GuardedInodes();
        DUE.is("member(2, 2, true): the first group is not besides", x.member(2, 2, true), 0);
        DUE.is("member(2, 2, false)", x.member(2, 2, false), 1);
        DUE.is("member(2, 15, true)", x.member(2, 15, true), 0);
        DUE.is("member(2, 15, true)", x.member(2, 15, true), 1);
        DUE.is("member(2, 14, false)", x.member(2, 14, false), 0);
        DUE.is("member(3, 15, false)", x.member(3, 15, false), 0);
        DUE.is("member(2, 15, false)", x.member(2, 15, false), 1);
        DUE.is("member(2, 15, false)", x.member(2, 15, false), 0);
        for (int wrong : NO_ID) {
            DUE.is("member(" + wrong + ", 0, true)", x.member(wrong, 0, true), BAD);
            DUE.is("member(0, " + wrong + ", true)", x.member(0, wrong, true), BAD);
        }
        x.create(1, 0, 1, 7 * 8);
        DUE.is("may of nobody's member", x.may(5, 1, 7), 0);
        x.member(5, 1, true);
        DUE.is("may of a member besides", x.may(5, 1, 7), 1);
        x.member(5, 1, false);
        DUE.is("may of a member no longer", x.may(5, 1, 7), 0);
        x.first(5, 1);
        DUE.is("may of one whose first group it is", x.may(5, 1, 7), 1);
    }

    private static void promise5() {
        GuardedInodes x = new GuardedInodes();
        DUE.is("mask(15, 511)", x.mask(15, 511), 0);
        DUE.is("mask(15, 0)", x.mask(15, 0), 511);
        DUE.is("mask(15, 18)", x.mask(15, 18), 0);
        for (int wrong : NO_ID) {
            DUE.is("mask(" + wrong + ", 0)", x.mask(wrong, 0), BAD);
        }
        for (int wrong : new int[] {-1, 512, Integer.MIN_VALUE, Integer.MAX_VALUE}) {
            DUE.is("mask(15, " + wrong + ")", x.mask(15, wrong), BAD);
        }
        x.create(15, 0, 1, 511);
        DUE.is("mode under a mask of 18", x.inode(1, 3), 511 - 18);
        x.create(15, 0, 2, 1023);
        DUE.is("mode of a sticky folder under a mask of 18", x.inode(2, 3), 1023 - 18);
        x.create(14, 0, 1, 511);
        DUE.is("mode under another's mask", x.inode(3, 3), 511);
    }
}
