/** Promises 11 to 15: chmod, chown, acl, list, may. */
public final class RightsTest {
    private static final int NONE = GuardedInodes.NONE, BAD = GuardedInodes.BAD, DENIED = GuardedInodes.DENIED;
    private static final int NO_ROOM = GuardedInodes.NO_ROOM, NO_QUOTA = GuardedInodes.NO_QUOTA;
    private static final int MISSING = GuardedInodes.MISSING;
    private static final Due DUE = new Due();

    public static void main(String[] args) {
        promise11();
        promise12();
        promise12Quota();
        promise12MovesCharges();
        promise13();
        promise13Refusals();
        promise13ForNewOnes();
        promise14();
        promise15Keeper();
        promise15Others();
        promise15Lists();
        DUE.end();
    }

    private static void promise11() {
        GuardedInodes x = new GuardedInodes();
        x.create(1, 0, 1, 0640);
        x.create(1, 0, 2, 0750);
        DUE.is("by its owner", x.chmod(1, 1, 0), 0640);
        DUE.is("by the keeper", x.chmod(0, 1, 511), 0);
        DUE.is("of a folder", x.chmod(1, 2, 2047), 0750);
        DUE.is("what it was", x.chmod(1, 2, 0), 2047);
        DUE.is("of the root", x.chmod(0, 0, 2047), 511);
        for (int mode : new int[] {512, 1024, 2047}) {
            DUE.is("of a file: " + mode, x.chmod(1, 1, mode), BAD);
        }
        for (int mode : new int[] {-1, 2048, Integer.MIN_VALUE, Integer.MAX_VALUE}) {
            DUE.is("mode " + mode, x.chmod(1, 2, mode), BAD);
        }
        for (int inode : new int[] {3, 64, -1}) {
            DUE.is("inode " + inode, x.chmod(0, inode, 0), BAD);
        }
        DUE.is("no user", x.chmod(16, 1, 0), BAD);
        DUE.is("no user", x.chmod(-1, 1, 0), BAD);
        DUE.is("by another", x.chmod(2, 1, 0), DENIED);
        DUE.is("bad before denied", x.chmod(2, 1, 512), BAD);
        DUE.is("nothing is done", x.inode(1, 3), 511);
        x.acl(1, 1, false, 0, 5, 7);
        DUE.is("tells the limit", x.chmod(1, 1, 0710), 0777);
        DUE.is("limit", x.list(1, false, 1), 1);
        DUE.is("the group's bits stay", x.list(1, false, 2), 7);
    }

    private static void promise12() {
        GuardedInodes x = new GuardedInodes();
        x.create(1, 0, 1, 0600);
        DUE.is("the root", x.chown(0, 0, 0, 0), BAD);
        for (int wrong : new int[] {-1, 16, Integer.MIN_VALUE, Integer.MAX_VALUE}) {
            DUE.is("user " + wrong, x.chown(wrong, 1, 1, 1), BAD);
            DUE.is("owner " + wrong, x.chown(0, 1, wrong, 1), BAD);
            DUE.is("group " + wrong, x.chown(0, 1, 1, wrong), BAD);
            DUE.is("inode " + wrong, x.chown(0, wrong, 1, 1), BAD);
        }
        DUE.is("by another", x.chown(2, 1, 1, 1), DENIED);
        DUE.is("another owner", x.chown(1, 1, 2, 1), DENIED);
        DUE.is("a group of others", x.chown(1, 1, 1, 2), DENIED);
        DUE.is("bad before denied", x.chown(2, 1, 1, 16), BAD);
        DUE.is("nothing is done", x.inode(1, 1) * 100 + x.inode(1, 2), 101);
        DUE.is("all as it was", x.chown(1, 1, 1, 1), 0);
        x.member(1, 2, true);
        DUE.is("a group besides", x.chown(1, 1, 1, 2), 0);
        DUE.is("its group", x.inode(1, 2), 2);
        DUE.is("back to the first", x.chown(1, 1, 1, 1), 0);
        x.first(1, 3);
        DUE.is("its own group, in which the owner is no longer", x.chown(1, 1, 1, 1), DENIED);
        DUE.is("the first group", x.chown(1, 1, 1, 3), 0);
        DUE.is("the keeper gives both", x.chown(0, 1, 9, 8), 0);
        DUE.is("owner", x.inode(1, 1), 9);
        DUE.is("group", x.inode(1, 2), 8);
        DUE.is("no longer the owner", x.chown(1, 1, 1, 3), DENIED);
        DUE.is("mode stays", x.inode(1, 3), 0600);
    }

    private static void promise12Quota() {
        GuardedInodes x = new GuardedInodes();
        x.create(1, 0, 1, 0600);
        x.write(1, 1, 60, 8, -1);
        x.member(1, 2, true);
        x.limit(1, 2, 1, NONE, 0);
        DUE.is("the inode is too much", x.chown(1, 1, 1, 2), NO_QUOTA);
        x.limit(1, 2, 1, NONE, 1);
        x.limit(1, 2, 0, NONE, 1);
        DUE.is("the blocks are too many", x.chown(1, 1, 1, 2), NO_QUOTA);
        DUE.is("denied before the quota", x.chown(3, 1, 1, 2), DENIED);
        DUE.is("nothing is done", x.inode(1, 2), 1);
        DUE.is("nothing is charged", x.charged(1, 2, 1), 0);
        x.limit(1, 2, 0, 0, NONE);
        DUE.is("the second block comes when the time of the first is out", x.chown(1, 1, 1, 2), NO_QUOTA);
        DUE.is("no time runs", x.charged(1, 2, 2), NONE);
        x.grace(1, 0, 5);
        DUE.is("it is not out yet", x.chown(1, 1, 1, 2), 0);
        DUE.is("time", x.charged(1, 2, 2), 5);
        x.tick(10);
        x.limit(1, 2, 1, 0, 0);
        DUE.is("what was theirs is not charged", x.chown(1, 1, 1, 2), 0);
        DUE.is("the time goes on", x.charged(1, 2, 2), 5);
        x.limit(0, 4, 1, 0, 0);
        x.limit(1, 4, 0, 0, 0);
        DUE.is("no limit refuses the keeper", x.chown(0, 1, 4, 4), 0);
        DUE.is("time of the new owner", x.charged(0, 4, 3), 10);
    }

    private static void promise12MovesCharges() {
        GuardedInodes x = new GuardedInodes();
        x.create(1, 0, 1, 0600);
        x.create(1, 0, 1, 0600);
        x.write(1, 1, 60, 8, -1);
        x.write(1, 2, 60, 1, -1);
        x.limit(0, 1, 0, 1, NONE);
        DUE.is("time", x.charged(0, 1, 2), 0);
        x.chown(0, 1, 5, 6);
        int[] due = {1, 1, NONE, NONE};
        for (int what = 0; what < 4; what++) {
            DUE.is("of the old owner " + what, x.charged(0, 1, what), due[what]);
            DUE.is("of the old group " + what, x.charged(1, 1, what), due[what]);
        }
        DUE.is("blocks of the new owner", x.charged(0, 5, 0), 2);
        DUE.is("inodes of the new owner", x.charged(0, 5, 1), 1);
        DUE.is("blocks of the new group", x.charged(1, 6, 0), 2);
        DUE.is("inodes of the new group", x.charged(1, 6, 1), 1);
        x.limit(0, 5, 0, 0, NONE);
        x.tick(3);
        x.chown(0, 1, 5, 7);
        DUE.is("a time that runs goes on for an owner who is kept", x.charged(0, 5, 2), 0);
    }

    private static void promise13() {
        GuardedInodes x = new GuardedInodes();
        x.create(1, 0, 1, 0640);
        DUE.is("the first entry", x.acl(1, 1, false, 1, 3, 3), 1);
        DUE.is("mode: the limit is all bits", x.inode(1, 3), 0670);
        DUE.is("again", x.acl(0, 1, false, 1, 3, 1), 1);
        DUE.is("mode: the limit anew", x.inode(1, 3), 0650);
        DUE.is("a user of the same id", x.acl(1, 1, false, 0, 3, 2), 2);
        DUE.is("mode", x.inode(1, 3), 0670);
        x.chmod(1, 1, 0600);
        DUE.is("taken", x.acl(1, 1, false, 0, 3, NONE), 1);
        DUE.is("the limit is told anew by taking", x.inode(1, 3), 0650);
        DUE.is("the last is taken", x.acl(1, 1, false, 1, 3, NONE), 0);
        DUE.is("the group's bits are back", x.inode(1, 3), 0640);
        DUE.is("no bits are an entry", x.acl(1, 1, false, 0, 0, 0), 1);
        x.chmod(1, 1, 0677);
        DUE.is("the group's bits are the list's", x.acl(1, 1, false, 0, 0, NONE), 0);
        DUE.is("others' bits are the mode's", x.inode(1, 3), 0647);
        DUE.is("sticky stays", x.create(1, 0, 2, 0700 + 512), 2);
        x.acl(1, 2, false, 0, 9, 5);
        DUE.is("sticky stays", x.inode(2, 3), 0750 + 512);
        DUE.is("of the root", x.acl(0, 0, false, 1, 15, 7), 1);
    }

    private static void promise13Refusals() {
        GuardedInodes x = new GuardedInodes();
        x.create(1, 0, 1, 0777);
        x.create(1, 0, 2, 0777);
        for (int kind : new int[] {-1, 2}) {
            DUE.is("kind " + kind, x.acl(1, 1, false, kind, 1, 7), BAD);
        }
        for (int bits : new int[] {-2, 8, Integer.MIN_VALUE, Integer.MAX_VALUE}) {
            DUE.is("bits " + bits, x.acl(1, 1, false, 0, 1, bits), BAD);
        }
        for (int id : new int[] {-1, 16}) {
            DUE.is("id " + id, x.acl(1, 1, false, 0, id, 7), BAD);
            DUE.is("id " + id, x.acl(1, 1, false, 1, id, 7), BAD);
            DUE.is("user " + id, x.acl(id, 1, false, 1, 1, 7), BAD);
        }
        for (int inode : new int[] {-1, 3, 64}) {
            DUE.is("inode " + inode, x.acl(1, inode, false, 0, 1, 7), BAD);
        }
        DUE.is("for new ones of a file", x.acl(1, 1, true, 0, 1, 7), BAD);
        DUE.is("bad before denied", x.acl(2, 1, true, 0, 1, 7), BAD);
        DUE.is("by another", x.acl(2, 1, false, 0, 2, 7), DENIED);
        DUE.is("denied before missing", x.acl(2, 1, false, 0, 2, NONE), DENIED);
        DUE.is("none to be taken", x.acl(1, 1, false, 0, 2, NONE), MISSING);
        x.acl(1, 1, false, 1, 2, 7);
        DUE.is("none of that kind", x.acl(1, 1, false, 0, 2, NONE), MISSING);
        for (int id = 8; id < 15; id++) {
            DUE.is("entry", x.acl(1, 1, false, 0, id, 0), id - 6);
        }
        DUE.is("a ninth", x.acl(1, 1, false, 0, 0, 0), NO_ROOM);
        DUE.is("a ninth by another", x.acl(2, 1, false, 0, 0, 0), DENIED);
        DUE.is("none of eight to be taken", x.acl(1, 1, false, 0, 0, NONE), MISSING);
        DUE.is("one of the eight", x.acl(1, 1, false, 0, 8, 5), 8);
        DUE.is("its bits", x.list(1, false, 7), 5);
        DUE.is("one of the eight is taken", x.acl(1, 1, false, 0, 8, NONE), 7);
        DUE.is("then there is room", x.acl(1, 1, false, 0, 0, 0), 8);
    }

    private static void promise13ForNewOnes() {
        GuardedInodes x = new GuardedInodes();
        x.create(1, 0, 2, 0641);
        DUE.is("one for new ones", x.acl(1, 1, true, 0, 5, 2), 1);
        DUE.is("mode stays", x.inode(1, 3), 0641);
        DUE.is("no list comes", x.list(1, false, 0), 0);
        x.chmod(1, 1, 0777);
        int[] due = {1, 6, 4, 6, 1, 0, 5, 2, NONE};
        for (int what = 0; what < due.length; what++) {
            DUE.is("list(1, true, " + what + ")", x.list(1, true, what), due[what]);
        }
        DUE.is("another", x.acl(1, 1, true, 1, 5, 1), 2);
        DUE.is("limit", x.list(1, true, 1), 7);
        DUE.is("taken", x.acl(1, 1, true, 0, 5, NONE), 1);
        DUE.is("limit", x.list(1, true, 1), 5);
        DUE.is("the last", x.acl(1, 1, true, 1, 5, NONE), 0);
        DUE.is("mode stays", x.inode(1, 3), 0777);
        DUE.is("gone", x.list(1, true, 2), NONE);
        x.acl(1, 1, false, 0, 5, 2);
        x.chmod(1, 1, 0731);
        DUE.is("made anew", x.acl(1, 1, true, 0, 5, 0), 1);
        DUE.is("the group's bits as in mode, which are a limit there", x.list(1, true, 2), 3);
        DUE.is("owner's bits", x.list(1, true, 3), 7);
        for (int id = 0; id < 7; id++) {
            x.acl(1, 1, true, 1, id, 7);
        }
        DUE.is("a ninth for new ones", x.acl(1, 1, true, 1, 7, 7), NO_ROOM);
        DUE.is("the other list has room", x.acl(1, 1, false, 1, 7, 7), 2);
        DUE.is("none to be taken for new ones", x.acl(1, 1, true, 1, 7, NONE), MISSING);
    }

    private static void promise14() {
        GuardedInodes x = new GuardedInodes();
        x.create(1, 0, 1, 0641);
        DUE.is("none", x.list(1, false, 0), 0);
        DUE.is("none for new ones", x.list(1, true, 0), 0);
        for (int what = 1; what < 40; what++) {
            DUE.is("none: " + what, x.list(1, false, what), NONE);
            DUE.is("none for new ones: " + what, x.list(1, true, what), NONE);
        }
        x.acl(1, 1, false, 1, 2, 5);
        x.acl(1, 1, false, 0, 9, 6);
        x.acl(1, 1, false, 0, 3, 0);
        x.acl(1, 1, false, 1, 0, 1);
        int[] due = {4, 7, 4, 6, 1, 0, 3, 0, 0, 9, 6, 1, 0, 1, 1, 2, 5, NONE, NONE};
        for (int what = 0; what < due.length; what++) {
            DUE.is("list(1, false, " + what + ")", x.list(1, false, what), due[what]);
        }
        DUE.is("far behind", x.list(1, false, Integer.MAX_VALUE), NONE);
        x.chmod(1, 1, 0352);
        int[] changed = {4, 5, 4, 3, 2};
        for (int what = 0; what < changed.length; what++) {
            DUE.is("as mode has them: " + what, x.list(1, false, what), changed[what]);
        }
        for (int inode : new int[] {-1, 2, 64}) {
            DUE.is("inode " + inode, x.list(inode, false, 0), BAD);
        }
        x.create(1, 0, 1, 0600);
        x.acl(1, 2, false, 0, 0, 3);
        x.acl(1, 2, false, 1, 15, 4);
        int[] ends = {2, 7, 0, 6, 0, 0, 0, 3, 1, 15, 4, NONE};
        for (int what = 0; what < ends.length; what++) {
            DUE.is("the least and the highest id: " + what, x.list(2, false, what), ends[what]);
        }
        DUE.is("what below 0", x.list(1, false, -1), BAD);
        DUE.is("what below 0", x.list(1, true, Integer.MIN_VALUE), BAD);
    }

    private static void promise15Keeper() {
        GuardedInodes x = new GuardedInodes();
        x.create(1, 0, 1, 0666);
        x.create(1, 0, 2, 0);
        DUE.is("a folder", x.may(0, 2, 7), 1);
        DUE.is("a file without 1s", x.may(0, 1, 6), 1);
        for (int x1 = 1; x1 <= 7; x1 += 2) {
            DUE.is("1 of a file without 1s: " + x1, x.may(0, 1, x1), 0);
        }
        for (int mode : new int[] {0100, 0010, 0001}) {
            x.chmod(0, 1, mode);
            DUE.is("mode " + mode, x.may(0, 1, 7), 1);
        }
        x.chmod(0, 1, 0010);
        x.acl(0, 1, false, 0, 7, 0);
        x.chmod(0, 1, 0);
        DUE.is("the list's group bits, cut by no limit", x.may(0, 1, 1), 1);
        x.acl(0, 1, false, 0, 7, NONE);
        x.chmod(0, 1, 0);
        x.acl(0, 1, false, 1, 7, 1);
        x.chmod(0, 1, 0);
        DUE.is("an entry, cut by no limit", x.may(0, 1, 1), 1);
        x.acl(0, 1, false, 1, 7, 6);
        x.chmod(0, 1, 0010);
        DUE.is("the limit's 1", x.may(0, 1, 1), 1);
        x.chmod(0, 1, 0060);
        DUE.is("none", x.may(0, 1, 1), 0);
        x.chown(0, 1, 0, 0);
        x.chmod(0, 1, 0060);
        DUE.is("a keeper who owns it", x.may(0, 1, 6), 1);
    }

    private static void promise15Others() {
        GuardedInodes x = new GuardedInodes();
        x.create(1, 0, 1, 0421);
        x.first(2, 1);
        for (int asked = 0; asked < 8; asked++) {
            DUE.is("owner: " + asked, x.may(1, 1, asked), asked == 0 || asked == 4 ? 1 : 0);
            DUE.is("group: " + asked, x.may(2, 1, asked), asked == 0 || asked == 2 ? 1 : 0);
            DUE.is("others: " + asked, x.may(3, 1, asked), asked == 0 || asked == 1 ? 1 : 0);
        }
        for (int asked : new int[] {-1, 8, Integer.MIN_VALUE, Integer.MAX_VALUE}) {
            DUE.is("x = " + asked, x.may(1, 1, asked), BAD);
        }
        for (int wrong : new int[] {-1, 16}) {
            DUE.is("user " + wrong, x.may(wrong, 1, 0), BAD);
        }
        for (int wrong : new int[] {-1, 2, 63, 64}) {
            DUE.is("inode " + wrong, x.may(1, wrong, 0), BAD);
        }
    }

    private static void promise15Lists() {
        GuardedInodes x = new GuardedInodes();
        x.create(1, 0, 1, 0047);
        x.acl(1, 1, false, 0, 2, 4);
        x.acl(1, 1, false, 1, 3, 2);
        x.acl(1, 1, false, 1, 4, 5);
        x.acl(1, 1, false, 0, 1, 7);
        DUE.is("an owner's entry does not count", x.may(1, 1, 1), 0);
        x.acl(1, 1, false, 0, 1, NONE);
        x.member(2, 3, true);
        DUE.is("a user's entry", x.may(2, 1, 4), 1);
        DUE.is("a user's entry goes before the groups'", x.may(2, 1, 2), 0);
        DUE.is("a group's entry", x.may(3, 1, 2), 1);
        DUE.is("a group's entry that has it not goes before others", x.may(3, 1, 1), 0);
        x.member(3, 4, true);
        DUE.is("some of the entries", x.may(3, 1, 5), 1);
        DUE.is("not all together", x.may(3, 1, 6), 0);
        x.member(5, 1, true);
        DUE.is("the group bits", x.may(5, 1, 4), 1);
        DUE.is("the group bits have it not", x.may(5, 1, 2), 0);
        x.member(5, 3, true);
        DUE.is("the group bits, or an entry", x.may(5, 1, 2), 1);
        x.acl(1, 1, false, 1, 0, 3);
        x.first(7, 0);
        DUE.is("an entry of group 0", x.may(7, 1, 3), 1);
        DUE.is("an entry of group 0 that has it not", x.may(7, 1, 4), 0);
        x.acl(1, 1, false, 1, 0, NONE);
        x.acl(1, 1, false, 1, 1, 1);
        DUE.is("an entry of the inode's own group", x.may(5, 1, 1), 1);
        DUE.is("the group bits beside it", x.may(5, 1, 4), 1);
        DUE.is("others", x.may(6, 1, 7), 1);
        x.chmod(1, 1, 0723);
        DUE.is("cut by the limit: an entry of a user", x.may(2, 1, 4), 0);
        DUE.is("cut by the limit: the group bits", x.may(5, 1, 4), 0);
        DUE.is("cut by the limit: an entry of a group", x.may(3, 1, 5), 0);
        DUE.is("within the limit", x.may(3, 1, 2), 1);
        DUE.is("the owner is not cut", x.may(1, 1, 7), 1);
        DUE.is("others are not cut", x.may(6, 1, 3), 1);
    }
}
