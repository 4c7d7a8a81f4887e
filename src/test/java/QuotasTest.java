/** Promises 21 to 25: limit, grace, charged, inode, count. */
public final class QuotasTest {
    private static final int NONE = GuardedInodes.NONE, BAD = GuardedInodes.BAD, NO_QUOTA = GuardedInodes.NO_QUOTA;
    private static final int[] FAR = {Integer.MIN_VALUE, Integer.MAX_VALUE};
    private static final Due DUE = new Due();

    public static void main(String[] args) {
        promise21();
        promise21Soft();
        promise21Anew();
        promise21OneAfterTheOther();
        promise21Keeper();
        promise22();
        promise23();
        promise24();
        promise25();
        DUE.end();
    }

    private static void promise21() {
        GuardedInodes x = new GuardedInodes();
        DUE.is("limit", x.limit(0, 15, 0, 1000, 1000), 0);
        DUE.is("limit", x.limit(1, 15, 1, NONE, NONE), 0);
        DUE.is("soft may be more than hard", x.limit(1, 15, 1, 5, 4), 0);
        for (int wrong : new int[] {-1, 2, FAR[0], FAR[1]}) {
            DUE.is("kind " + wrong, x.limit(wrong, 1, 0, 0, 0), BAD);
            DUE.is("what " + wrong, x.limit(0, 1, wrong, 0, 0), BAD);
        }
        for (int wrong : new int[] {-1, 16, FAR[0], FAR[1]}) {
            DUE.is("id " + wrong, x.limit(0, wrong, 0, 0, 0), BAD);
        }
        for (int wrong : new int[] {-2, 1001, FAR[0], FAR[1]}) {
            DUE.is("soft " + wrong, x.limit(0, 1, 1, wrong, 0), BAD);
            DUE.is("hard " + wrong, x.limit(0, 1, 1, 0, wrong), BAD);
        }
        DUE.is("a bad one tells nothing", x.create(1, 0, 1, 0600), 1);
        x.limit(0, 1, 1, NONE, 1);
        DUE.is("hard", x.create(1, 0, 1, 0600), NO_QUOTA);
        x.limit(0, 1, 1, NONE, NONE);
        DUE.is("hard no longer", x.create(1, 0, 1, 0600), 2);
        x.limit(0, 1, 0, NONE, 0);
        DUE.is("of blocks, not inodes", x.create(1, 0, 1, 0600), 3);
        DUE.is("of blocks", x.write(1, 1, 0, 1, 1), NO_QUOTA);
        x.limit(0, 1, 1, NONE, 0);
        DUE.is("what is over already stays", x.charged(0, 1, 1), 3);
        DUE.is("of another user", x.create(2, 0, 1, 0600), 4);
    }

    private static void promise21Soft() {
        for (int kind = 0; kind < 2; kind++) {
            GuardedInodes x = new GuardedInodes();
            x.tick(7);
            x.grace(kind, 1, 10);
            x.limit(kind, 1, 1, 1, 4);
            DUE.is("create", x.create(1, 0, 1, 0600), 1);
            DUE.is("no time at the soft limit", x.charged(kind, 1, 3), NONE);
            x.tick(1);
            DUE.is("over the soft limit", x.create(1, 0, 1, 0600), 2);
            DUE.is("time", x.charged(kind, 1, 3), 18);
            x.grace(kind, 1, 100);
            x.tick(9);
            DUE.is("the time is not out", x.create(1, 0, 1, 0600), 3);
            DUE.is("time stays, whatever grace is", x.charged(kind, 1, 3), 18);
            x.tick(1);
            DUE.is("the time is out", x.create(1, 0, 1, 0600), NO_QUOTA);
            x.remove(1, 3);
            DUE.is("still over", x.create(1, 0, 1, 0600), NO_QUOTA);
            x.remove(1, 2);
            DUE.is("no time", x.charged(kind, 1, 3), NONE);
            DUE.is("over anew", x.create(1, 0, 1, 0600), 2);
            DUE.is("time by the new grace", x.charged(kind, 1, 3), 118);
            DUE.is("create", x.create(1, 0, 1, 0600), 3);
            DUE.is("create", x.create(1, 0, 1, 0600), 4);
            DUE.is("hard", x.create(1, 0, 1, 0600), NO_QUOTA);
            DUE.is("the others have none", x.charged(1 - kind, 1, 3), NONE);
        }
    }

    private static void promise21Anew() {
        GuardedInodes x = new GuardedInodes();
        x.create(1, 0, 1, 0600);
        x.create(1, 0, 1, 0600);
        x.grace(0, 1, 5);
        x.tick(2);
        x.limit(0, 1, 1, 2, NONE);
        DUE.is("not over", x.charged(0, 1, 3), NONE);
        x.limit(0, 1, 1, 1, NONE);
        DUE.is("over at once", x.charged(0, 1, 3), 7);
        x.tick(1);
        x.limit(0, 1, 1, 0, NONE);
        DUE.is("over already", x.charged(0, 1, 3), 7);
        x.limit(0, 1, 1, NONE, NONE);
        DUE.is("none", x.charged(0, 1, 3), NONE);
        x.limit(0, 1, 1, 0, NONE);
        DUE.is("over anew", x.charged(0, 1, 3), 8);
        x.limit(0, 1, 1, 9, NONE);
        DUE.is("over no longer", x.charged(0, 1, 3), NONE);
        x.grace(0, 1, 100000);
        for (int i = 0; i < 100; i++) {
            x.tick(10000);
        }
        x.limit(0, 1, 1, 1, NONE);
        DUE.is("a time that never comes", x.charged(0, 1, 3), 1100000);
        x.tick(10000);
        DUE.is("a time that never comes", x.create(1, 0, 1, 0), 3);
    }

    private static void promise21OneAfterTheOther() {
        GuardedInodes x = new GuardedInodes();
        x.create(1, 0, 1, 0600);
        x.limit(0, 1, 0, 0, NONE);
        DUE.is("the first starts a time that is out for the second", x.write(1, 1, 60, 8, -1), NO_QUOTA);
        DUE.is("nothing is done: time", x.charged(0, 1, 2), NONE);
        DUE.is("nothing is done: blocks", x.count(1), 256);
        DUE.is("one alone", x.write(1, 1, 60, 4, -1), 64);
        DUE.is("time", x.charged(0, 1, 2), 0);
        DUE.is("the next", x.write(1, 1, 64, 4, -1), NO_QUOTA);
        x.resize(1, 1, 0);
        x.limit(0, 1, 0, 1, NONE);
        DUE.is("only the second is over", x.write(1, 1, 60, 8, -1), 68);
        x.resize(1, 1, 0);
        x.limit(0, 1, 0, 0, NONE);
        x.grace(0, 0, 1);
        DUE.is("with a grace both come", x.write(1, 1, 60, 8, -1), 68);
        x.resize(1, 1, 0);
        x.limit(0, 1, 0, NONE, NONE);
        x.limit(1, 1, 0, 0, NONE);
        DUE.is("a group's grace is another", x.write(1, 1, 60, 8, -1), NO_QUOTA);
    }

    private static void promise21Keeper() {
        GuardedInodes x = new GuardedInodes();
        x.create(0, 0, 1, 0602);
        x.create(1, 0, 1, 0600);
        x.limit(0, 0, 0, 0, 0);
        x.limit(0, 1, 0, 0, 0);
        DUE.is("the keeper's act on its own", x.write(0, 1, 60, 8, -1), 68);
        DUE.is("the keeper has a time", x.charged(0, 0, 2), 0);
        DUE.is("the keeper's act on another's", x.write(0, 2, 60, 8, -1), 68);
        DUE.is("the other has a time", x.charged(0, 1, 2), 0);
        DUE.is("another's act on the keeper's", x.write(1, 1, 128, 1, 1), NO_QUOTA);
    }

    private static void promise22() {
        GuardedInodes x = new GuardedInodes();
        int told = 1;
        for (int kind = 0; kind < 2; kind++) {
            for (int what = 0; what < 2; what++) {
                DUE.is("at first", x.grace(kind, what, told++), 0);
            }
        }
        told = 1;
        for (int kind = 0; kind < 2; kind++) {
            for (int what = 0; what < 2; what++) {
                DUE.is("what it was", x.grace(kind, what, 100000), told++);
            }
        }
        for (int wrong : new int[] {-1, 2, FAR[0], FAR[1]}) {
            DUE.is("kind " + wrong, x.grace(wrong, 0, 0), BAD);
            DUE.is("what " + wrong, x.grace(0, wrong, 0), BAD);
        }
        for (int wrong : new int[] {-1, 100001, FAR[0], FAR[1]}) {
            DUE.is("minutes " + wrong, x.grace(0, 0, wrong), BAD);
        }
        DUE.is("a bad one tells nothing", x.grace(0, 0, 0), 100000);
        x.grace(1, 0, 3);
        x.create(4, 0, 1, 0600);
        for (int kind = 0; kind < 2; kind++) {
            x.limit(kind, 4, 0, 0, NONE);
            x.limit(kind, 4, 1, 0, NONE);
        }
        x.write(4, 1, 0, 1, 1);
        DUE.is("users' blocks", x.charged(0, 4, 2), 0);
        DUE.is("users' inodes", x.charged(0, 4, 3), 100000);
        DUE.is("groups' blocks", x.charged(1, 4, 2), 3);
        DUE.is("groups' inodes", x.charged(1, 4, 3), 100000);
    }

    private static void promise23() {
        GuardedInodes x = new GuardedInodes();
        x.first(2, 9);
        x.create(2, 0, 1, 0600);
        x.create(2, 0, 2, 0700);
        x.write(2, 1, 63, 2, -1);
        x.limit(1, 9, 0, 1, NONE);
        int[] user = {2, 2, NONE, NONE};
        int[] group = {2, 2, 0, NONE};
        for (int what = 0; what < 4; what++) {
            DUE.is("charged(0, 2, " + what + ")", x.charged(0, 2, what), user[what]);
            DUE.is("charged(1, 9, " + what + ")", x.charged(1, 9, what), group[what]);
            DUE.is("charged(1, 2, " + what + ")", x.charged(1, 2, what), what < 2 ? 0 : NONE);
        }
        for (int wrong : new int[] {-1, 2, FAR[0], FAR[1]}) {
            DUE.is("kind " + wrong, x.charged(wrong, 0, 0), BAD);
        }
        for (int wrong : new int[] {-1, 16, FAR[0], FAR[1]}) {
            DUE.is("id " + wrong, x.charged(0, wrong, 0), BAD);
            DUE.is("id " + wrong, x.charged(1, wrong, 3), BAD);
        }
        for (int wrong : new int[] {-1, 4, FAR[0], FAR[1]}) {
            DUE.is("what " + wrong, x.charged(0, 0, wrong), BAD);
        }
    }

    private static void promise24() {
        GuardedInodes x = new GuardedInodes();
        x.create(3, 0, 2, 0751 + 512);
        x.create(3, 1, 1, 0640);
        x.chown(0, 2, 3, 11);
        x.write(3, 2, 130, 8, -1);
        x.write(3, 2, 700, 8, -1);
        for (int i = 0; i < 40; i++) {
            x.feed(1);
        }
        x.put(3, 2, 0);
        int[] folder = {2, 3, 3, 0751 + 512, 0, 0, 1, 0, NONE};
        int[] file = {1, 3, 11, 0640, 708, 1, 0, 4, 3};
        for (int what = 0; what < 9; what++) {
            DUE.is("inode(1, " + what + ")", x.inode(1, what), folder[what]);
            DUE.is("inode(2, " + what + ")", x.inode(2, what), file[what]);
        }
        for (int part = 0; part < 12; part++) {
            int due = part == 2 ? 0 : part == 10 ? 1 : part == 11 ? 2 : NONE;
            DUE.is("inode(1, " + (part + 9) + ")", x.inode(1, part + 9), NONE);
            DUE.is("inode(2, " + (part + 9) + ")", x.inode(2, part + 9), due);
        }
        DUE.is("the root is not counted in itself", x.inode(0, 6), 1);
        for (int wrong : new int[] {-1, 21, FAR[0], FAR[1]}) {
            DUE.is("what " + wrong, x.inode(2, wrong), BAD);
        }
        for (int wrong : new int[] {-1, 3, 63, 64, FAR[0], FAR[1]}) {
            DUE.is("inode " + wrong, x.inode(wrong, 0), BAD);
        }
    }

    private static void promise25() {
        GuardedInodes x = new GuardedInodes();
        x.tick(12);
        x.create(1, 0, 1, 0600);
        x.write(1, 1, 60, 8, -1);
        DUE.is("now", x.count(0), 12);
        DUE.is("blocks not used", x.count(1), 254);
        DUE.is("inodes not used", x.count(2), 62);
        for (int wrong : new int[] {-1, 3, FAR[0], FAR[1]}) {
            DUE.is("count(" + wrong + ")", x.count(wrong), BAD);
        }
    }
}
