/** Promises 6 and 7: create, remove. */
public final class CreateRemoveTest {
    private static final int NONE = GuardedInodes.NONE, BAD = GuardedInodes.BAD, DENIED = GuardedInodes.DENIED;
    private static final int NO_ROOM = GuardedInodes.NO_ROOM, NO_QUOTA = GuardedInodes.NO_QUOTA;
    private static final int NOT_EMPTY = GuardedInodes.NOT_EMPTY;
    private static final Due DUE = new Due();

    public static void main(String[] args) {
        promise6NewInodes();
        promise6Refusals();
        promise6Quota();
        promise6Lists();
        promise7();
        promise7Sticky();
        promise7GivesBack();
        DUE.end();
    }

    private static void promise6NewInodes() {
        GuardedInodes x = new GuardedInodes();
        DUE.is("create a folder", x.create(3, 0, 2, 511), 1);
        int[] due = {2, 3, 3, 511, 0, 0, 0, 0, NONE};
        for (int what = 0; what < due.length; what++) {
            DUE.is("inode(1, " + what + ")", x.inode(1, what), due[what]);
        }
        DUE.is("create a file in it", x.create(4, 1, 1, 0), 2);
        DUE.is("its folder", x.inode(2, 5), 1);
        DUE.is("how many lie in the folder", x.inode(1, 6), 1);
        DUE.is("how many lie in the root", x.inode(0, 6), 1);
        DUE.is("charged to the user", x.charged(0, 4, 1), 1);
        DUE.is("charged to the group", x.charged(1, 4, 1), 1);
        DUE.is("create", x.create(4, 0, 1, 0), 3);
        DUE.is("remove", x.remove(4, 2), 0);
        DUE.is("the least that is free", x.create(4, 0, 1, 0), 2);
        x.chmod(0, 0, 511 + 1024);
        x.first(5, 9);
        x.create(5, 0, 2, 512 + 448);
        DUE.is("a folder in one handed on is, too", x.inode(4, 3), 1024 + 512 + 448);
        DUE.is("its group is the folder's", x.inode(4, 2), 0);
        x.create(5, 4, 1, 448);
        DUE.is("a file in one handed on is not", x.inode(5, 3), 448);
        x.create(5, 1, 1, 448);
        DUE.is("its group is the user's first", x.inode(6, 2), 9);
    }

    private static void promise6Refusals() {
        GuardedInodes x = new GuardedInodes();
        x.create(1, 0, 1, 511);
        x.create(1, 0, 2, 0700 + 0050 + 0002);
        for (int kind : new int[] {0, 3, -1, Integer.MAX_VALUE}) {
            DUE.is("kind " + kind, x.create(1, 0, kind, 0), BAD);
        }
        for (int mode : new int[] {-1, 1024, Integer.MIN_VALUE, Integer.MAX_VALUE}) {
            DUE.is("folder's mode " + mode, x.create(1, 0, 2, mode), BAD);
            DUE.is("file's mode " + mode, x.create(1, 0, 1, mode), BAD);
        }
        DUE.is("a sticky file", x.create(1, 0, 1, 512), BAD);
        for (int folder : new int[] {1, 3, 63, 64, -1, Integer.MIN_VALUE}) {
            DUE.is("folder " + folder, x.create(1, folder, 1, 0), BAD);
        }
        for (int user : new int[] {-1, 16}) {
            DUE.is("user " + user, x.create(user, 0, 1, 0), BAD);
        }
        x.first(3, 1);
        DUE.is("may execute, not write", x.create(3, 2, 1, 0), DENIED);
        DUE.is("may write, not execute", x.create(2, 2, 1, 0), DENIED);
        DUE.is("bad before denied", x.create(2, 2, 3, 0), BAD);
        DUE.is("nothing is done", x.count(2), 61);
        for (int inode = 3; inode < 64; inode++) {
            DUE.is("create", x.create(1, 2, 1, 0), inode);
        }
        x.limit(0, 1, 1, NONE, 0);
        DUE.is("none is free, before the quota", x.create(1, 2, 1, 0), NO_ROOM);
        DUE.is("denied before no room", x.create(2, 2, 1, 0), DENIED);
        DUE.is("none is free for the keeper", x.create(0, 2, 1, 0), NO_ROOM);
    }

    private static void promise6Quota() {
        GuardedInodes x = new GuardedInodes();
        x.limit(0, 1, 1, NONE, 2);
        DUE.is("create", x.create(1, 0, 1, 511), 1);
        DUE.is("create", x.create(1, 0, 1, 511), 2);
        DUE.is("beyond the user's hard limit", x.create(1, 0, 1, 511), NO_QUOTA);
        DUE.is("nothing is made", x.inode(3, 0), BAD);
        DUE.is("nothing is charged", x.charged(1, 1, 1), 2);
        x.limit(1, 7, 1, NONE, 0);
        x.first(2, 7);
        DUE.is("beyond the group's hard limit", x.create(2, 0, 1, 511), NO_QUOTA);
        DUE.is("nothing is charged to the user", x.charged(0, 2, 1), 0);
        x.limit(0, 0, 1, 0, 0);
        x.limit(1, 0, 1, 0, 0);
        DUE.is("no limit refuses the keeper", x.create(0, 0, 1, 511), 3);
        DUE.is("nor again", x.create(0, 0, 2, 511 + 512), 4);
        DUE.is("the keeper is charged", x.charged(0, 0, 1), 2);
        x.chown(0, 4, 3, 7);
        x.chmod(3, 4, 511 + 1024);
        DUE.is("the group that is handed on counts", x.create(3, 4, 1, 0), NO_QUOTA);
    }

    private static void promise6Lists() {
        GuardedInodes x = new GuardedInodes();
        x.create(1, 0, 2, 0751);
        x.acl(1, 1, true, 0, 5, 2);
        x.acl(1, 1, true, 1, 6, 1);
        x.chmod(1, 1, 0777);
        x.mask(2, 511);
        DUE.is("create by a user whose mask does not count", x.create(2, 1, 2, 0625), 2);
        DUE.is("mode: what both have", x.inode(2, 3), 0601 | 0020);
        int[] list = {2, 2, 5, 6, 1, 0, 5, 2, 1, 6, 1, NONE};
        int[] fresh = {2, 7, 5, 7, 1, 0, 5, 2, 1, 6, 1, NONE};
        for (int what = 0; what < list.length; what++) {
            DUE.is("list(2, false, " + what + ")", x.list(2, false, what), list[what]);
            DUE.is("list(2, true, " + what + ")", x.list(2, true, what), fresh[what]);
        }
        x.acl(2, 2, true, 0, 5, NONE);
        x.acl(2, 2, false, 1, 6, 7);
        DUE.is("the folder's own list for new ones stays", x.list(1, true, 0), 2);
        DUE.is("the new one's list stays beside its other", x.list(2, false, 0), 2);
        DUE.is("the new one's list for new ones is its own", x.list(2, true, 10), NONE);
        x.create(2, 1, 1, 0777);
        DUE.is("a file's mode", x.inode(3, 3), 0771);
        DUE.is("a file has a list", x.list(3, false, 0), 2);
        DUE.is("a file has none for new ones", x.list(3, true, 0), 0);
        x.acl(2, 3, false, 0, 5, NONE);
        x.acl(2, 3, false, 1, 6, NONE);
        DUE.is("the group's bits come back", x.inode(3, 3), 0751);
    }

    private static void promise7() {
        GuardedInodes x = new GuardedInodes();
        DUE.is("the root", x.remove(0, 0), BAD);
        for (int inode : new int[] {1, 63, 64, -1, Integer.MAX_VALUE}) {
            DUE.is("no inode " + inode, x.remove(0, inode), BAD);
        }
        x.create(1, 0, 2, 0730);
        x.create(1, 1, 2, 0777);
        x.create(1, 2, 1, 0777);
        DUE.is("no user", x.remove(16, 3), BAD);
        DUE.is("no user", x.remove(-1, 3), BAD);
        DUE.is("may not in its folder", x.remove(2, 2), DENIED);
        x.member(2, 1, true);
        DUE.is("may by the group, but something lies in it", x.remove(2, 2), NOT_EMPTY);
        DUE.is("something lies in it, for the keeper", x.remove(0, 1), NOT_EMPTY);
        DUE.is("what lies in it", x.remove(2, 3), 0);
        DUE.is("gone", x.inode(3, 0), BAD);
        DUE.is("now empty", x.remove(2, 2), 0);
        x.chmod(1, 1, 0300);
        x.create(1, 1, 1, 0);
        DUE.is("write and execute are enough, whatever it is", x.remove(1, 2), 0);
        x.create(1, 1, 1, 0);
        x.chmod(1, 1, 0500);
        DUE.is("the folder's owner who may not write", x.remove(1, 2), DENIED);
        x.chmod(1, 1, 0600);
        DUE.is("the folder's owner who may not execute", x.remove(1, 2), DENIED);
        DUE.is("the keeper", x.remove(0, 2), 0);
    }

    private static void promise7Sticky() {
        GuardedInodes x = new GuardedInodes();
        x.create(1, 0, 2, 0777 + 512);
        for (int i = 0; i < 4; i++) {
            x.create(2, 1, 1, 0777);
        }
        x.create(2, 1, 2, 0777);
        x.create(2, 6, 1, 0777);
        DUE.is("sticky, another's", x.remove(3, 2), DENIED);
        DUE.is("sticky, another's that is not empty", x.remove(3, 6), DENIED);
        DUE.is("its owner", x.remove(2, 2), 0);
        DUE.is("its folder's owner", x.remove(1, 3), 0);
        DUE.is("the keeper", x.remove(0, 4), 0);
        DUE.is("sticky is not handed on", x.remove(3, 7), 0);
        x.chmod(1, 1, 0700 + 512);
        DUE.is("its owner who may not write in the folder", x.remove(2, 5), DENIED);
    }

    private static void promise7GivesBack() {
        GuardedInodes x = new GuardedInodes();
        x.create(1, 0, 1, 0777);
        x.write(1, 1, 62, 4, -1L);
        for (int i = 0; i < 38; i++) {
            x.feed(i);
        }
        x.put(1, 1, 0);
        x.acl(1, 1, false, 0, 4, 7);
        DUE.is("blocks", x.inode(1, 7), 3);
        DUE.is("charged", x.charged(1, 1, 0), 3);
        DUE.is("remove", x.remove(1, 1), 0);
        DUE.is("blocks not used", x.count(1), 256);
        DUE.is("inodes not used", x.count(2), 63);
        for (int kind = 0; kind < 2; kind++) {
            DUE.is("blocks charged", x.charged(kind, 1, 0), 0);
            DUE.is("inodes charged", x.charged(kind, 1, 1), 0);
        }
        DUE.is("create", x.create(2, 0, 1, 0640), 1);
        DUE.is("nothing is left of its data", x.inode(1, 4), 0);
        DUE.is("nothing is left of its list", x.list(1, false, 0), 0);
        DUE.is("nothing is left of its attributes", x.side(1, 0), GuardedInodes.MISSING);
        x.write(2, 1, 70, 1, 9);
        DUE.is("a block that is used again is all 0", x.read(2, 1, 64, 8), 9L << 8);
        x.create(3, 0, 1, 0);
        x.write(0, 2, 0, 1, 0);
        x.chown(0, 2, 4, 5);
        x.remove(4, 2);
        DUE.is("given back to whom it is then", x.charged(0, 4, 1) + x.charged(1, 5, 1) + x.charged(0, 4, 0), 0);
    }
}
