/** The boundary cases of promises 11 to 15: chmod, chown, acl, list, may. */
public final class RightsEdgesTest {
    private static final int NONE = GuardedInodes.NONE, BAD = GuardedInodes.BAD, DENIED = GuardedInodes.DENIED;
    private static final int NO_ROOM = GuardedInodes.NO_ROOM, NO_QUOTA = GuardedInodes.NO_QUOTA;
    private static final int MISSING = GuardedInodes.MISSING;
    private static final int LEAST = Integer.MIN_VALUE, MOST = Integer.MAX_VALUE;
    private static final Due DUE = new Due();
    /** 1 is a file, 2 a folder, both of user 1; user 2 is in group 1, too. */
    private static final Twins TWO = new Twins(DUE, RightsEdgesTest::two);
    private static final Twins LAST = new Twins(DUE, RightsEdgesTest::upToTheLast);

    public static void main(String[] args) {
        modesOfAFile();
        modesOfAFolder();
        inodesAndUsersOfChmod();
        whoMayChmod();
        chmodTellsTheLimit();
        idsOfChown();
        inodesOfChown();
        whoMayChown();
        groupsThatAnOwnerGives();
        hardLimitsOfChown();
        softLimitsOfChown();
        whatWasTheirsIsNotCharged();
        keeperGivesBeyondLimits();
        chownRefusalsInOrder();
        kindsIdsAndBitsOfAcl();
        inodesAndUsersOfAcl();
        listsForNewOnesAreOfFolders();
        whoMayAcl();
        eightEntries();
        noneToBeTaken();
        aclRefusalsInOrder();
        theLimitComesAnew();
        theListGoesWithItsLastEntry();
        theListForNewOnesGoesWithItsLastEntry();
        whatsOfList();
        inodesOfList();
        noList();
        idsOfMay();
        bitsOfMay();
        entriesOfTheLeastAndTheLast();
        keeperMayExecuteSomeFiles();
        DUE.end();
    }

    private static void two(GuardedInodes x) {
        x.create(1, 0, 1, 0640);
        x.create(1, 0, 2, 0750);
        x.member(2, 1, true);
    }

    private static void upToTheLast(GuardedInodes x) {
        for (int made = 1; made <= 63; made++) {
            x.create(1, 0, 2, 0750);
        }
    }

    /** Entries of users 4 to 7 and groups 4 to 7. */
    private static void eight(GuardedInodes x, int inode, boolean fresh) {
        for (int i = 0; i < 8; i++) {
            x.acl(0, inode, fresh, i / 4, 4 + i % 4, i);
        }
    }

    private static void modesOfAFile() {
        TWO.takes("the least", x -> x.chmod(1, 1, 0) * 1000 + x.inode(1, 3), 0640 * 1000);
        TWO.takes("the most", x -> x.chmod(1, 1, 511) * 1000 + x.inode(1, 3), 0640 * 1000 + 511);
        TWO.bad("of a folder alone:", (x, mode) -> x.chmod(1, 1, mode), 512, 1024, 1536, 2047);
        TWO.bad("of a folder alone, for the keeper:", (x, mode) -> x.chmod(0, 1, mode), 512, 1024);
        TWO.bad("mode", (x, mode) -> x.chmod(1, 1, mode), -1, 2048, LEAST, MOST);
    }

    private static void modesOfAFolder() {
        for (int mode : new int[] {0, 511, 512, 1023, 1024, 1535, 1536, 2047}) {
            TWO.takes("mode " + mode, x -> x.chmod(1, 2, mode) * 3000 + x.inode(2, 3), 0750 * 3000 + mode);
            TWO.takes("what it was: " + mode, x -> x.chmod(1, 2, mode) * 0 + x.chmod(1, 2, 1), mode);
        }
        TWO.bad("mode", (x, mode) -> x.chmod(1, 2, mode), -1, 2048, 4096, LEAST, MOST);
    }

    private static void inodesAndUsersOfChmod() {
        TWO.takes("the root", x -> x.chmod(0, 0, 2047) * 3000 + x.inode(0, 3), 511 * 3000 + 2047);
        LAST.takes("the last", x -> x.chmod(1, 63, 7) * 1000 + x.inode(63, 3), 0750 * 1000 + 7);
        TWO.bad("inode", (x, inode) -> x.chmod(0, inode, 0), -1, 3, 63, 64, 65, LEAST, MOST);
        TWO.bad("user", (x, user) -> x.chmod(user, 1, 0), -1, 16, LEAST, MOST);
        Twins lastUser = new Twins(DUE, x -> x.create(15, 0, 1, 0));
        lastUser.takes("the last user", x -> x.chmod(15, 1, 1) * 10 + x.inode(1, 3), 1);
    }

    private static void whoMayChmod() {
        TWO.takes("its owner", x -> x.chmod(1, 1, 0), 0640);
        TWO.takes("the keeper", x -> x.chmod(0, 1, 0), 0640);
        TWO.takes("its owner, whatever mode is", x -> x.chmod(1, 1, 0) * 0 + x.chmod(1, 1, 7), 0);
        TWO.refuses("one of its group", x -> x.chmod(2, 1, 0777), DENIED);
        TWO.refuses("another", x -> x.chmod(15, 1, 0777), DENIED);
        TWO.refuses("the root by another", x -> x.chmod(1, 0, 0777), DENIED);
        TWO.refuses("bad before denied", x -> x.chmod(2, 1, 512), BAD);
        TWO.refuses("bad before denied", x -> x.chmod(2, 2, 2048), BAD);
    }

    private static void chmodTellsTheLimit() {
        Twins listed = new Twins(DUE, x -> {
            two(x);
            x.acl(1, 1, false, 0, 5, 7);
        });
        for (int bits = 0; bits < 8; bits++) {
            int limit = bits;
            listed.takes("limit " + bits, x -> x.chmod(1, 1, limit * 8) * 0 + x.list(1, false, 1), bits);
            listed.takes("group bits at " + bits, x -> x.chmod(1, 1, limit * 8) * 0 + x.list(1, false, 2), 4);
            listed.takes("the entry at " + bits, x -> x.chmod(1, 1, limit * 8) * 0 + x.list(1, false, 7), 7);
            listed.takes("mode at " + bits, x -> x.chmod(1, 1, limit * 8) * 0 + x.inode(1, 3), bits * 8);
        }
        listed.takes("what it was", x -> x.chmod(1, 1, 0), 0670);
    }

    private static void idsOfChown() {
        for (int id : new int[] {0, 15}) {
            TWO.takes("owner " + id, x -> x.chown(0, 1, id, 3) * 100 + x.inode(1, 1), id);
            TWO.takes("group " + id, x -> x.chown(0, 1, 3, id) * 100 + x.inode(1, 2), id);
        }
        TWO.bad("user", (x, user) -> x.chown(user, 1, 1, 1), -1, 16, LEAST, MOST);
        TWO.bad("owner", (x, owner) -> x.chown(0, 1, owner, 1), -1, 16, LEAST, MOST);
        TWO.bad("group", (x, group) -> x.chown(0, 1, 1, group), -1, 16, LEAST, MOST);
        Twins lastUser = new Twins(DUE, x -> x.create(15, 0, 1, 0));
        lastUser.takes("the last user", x -> x.member(15, 0, true) + x.chown(15, 1, 15, 0), 0);
    }

    private static void inodesOfChown() {
        TWO.refuses("the root by the keeper", x -> x.chown(0, 0, 1, 1), BAD);
        TWO.refuses("the root as it is", x -> x.chown(0, 0, 0, 0), BAD);
        TWO.refuses("the root by another", x -> x.chown(1, 0, 1, 1), BAD);
        TWO.bad("inode", (x, inode) -> x.chown(0, inode, 2, 2), -1, 3, 63, 64, 65, LEAST, MOST);
        TWO.takes("the first behind the root", x -> x.chown(0, 1, 2, 2), 0);
        LAST.takes("the last", x -> x.chown(0, 63, 2, 2) * 10 + x.inode(63, 1), 2);
    }

    private static void whoMayChown() {
        TWO.takes("its owner, as it is", x -> x.chown(1, 1, 1, 1), 0);
        TWO.refuses("its owner to another", x -> x.chown(1, 1, 2, 1), DENIED);
        TWO.refuses("its owner to the keeper", x -> x.chown(1, 1, 0, 1), DENIED);
        TWO.refuses("one of its group, as it is", x -> x.chown(2, 1, 1, 1), DENIED);
        TWO.refuses("one of its group, to itself", x -> x.chown(2, 1, 2, 2), DENIED);
        TWO.refuses("another", x -> x.chown(3, 1, 1, 1), DENIED);
        TWO.takes("the keeper gives what is nobody's of its own", x -> x.chown(0, 1, 7, 9) * 1000 + x.inode(1, 1) * 100 + x.inode(1, 2), 709);
        TWO.takes("the owner no longer", x -> x.chown(0, 1, 7, 1) + x.chown(1, 1, 7, 1), DENIED);
    }

    private static void groupsThatAnOwnerGives() {
        Twins besides = new Twins(DUE, x -> {
            two(x);
            x.member(1, 0, true);
            x.member(1, 15, true);
            x.first(1, 3);
        });
        besides.takes("a first group", x -> x.chown(1, 1, 1, 3) + x.inode(1, 2), 3);
        besides.takes("the least group besides", x -> x.chown(1, 1, 1, 0) + x.inode(1, 2), 0);
        besides.takes("the last group besides", x -> x.chown(1, 1, 1, 15) + x.inode(1, 2), 15);
        besides.refuses("the inode's already, but no longer the owner's", x -> x.chown(1, 1, 1, 1), DENIED);
        besides.refuses("one of others", x -> x.chown(1, 1, 1, 2), DENIED);
        besides.refuses("one of others", x -> x.chown(1, 1, 1, 14), DENIED);
        besides.refuses("a group of its own to another owner", x -> x.chown(1, 1, 3, 3), DENIED);
    }

    /** Inode 1 of user 1 has two blocks in parts and a side block; user 1 is in group 5, too. */
    private static void threeBlocks(GuardedInodes x) {
        two(x);
        x.write(1, 1, 60, 8, -1);
        for (int i = 0; i < 38; i++) {
            x.feed(i);
        }
        x.put(1, 1, 0);
        x.member(1, 5, true);
    }

    private static void hardLimitsOfChown() {
        for (int hard = 0; hard <= 2; hard++) {
            int limit = hard;
            Twins inodes = new Twins(DUE, x -> {
                threeBlocks(x);
                x.limit(1, 5, 1, NONE, limit);
            });
            inodes.answers("an inode of at most " + hard, x -> x.chown(1, 1, 1, 5), hard < 1 ? NO_QUOTA : 0);
        }
        for (int hard = 0; hard <= 4; hard++) {
            int limit = hard;
            Twins blocks = new Twins(DUE, x -> {
                threeBlocks(x);
                x.limit(1, 5, 0, NONE, limit);
            });
            blocks.answers("three blocks of at most " + hard, x -> x.chown(1, 1, 1, 5), hard < 3 ? NO_QUOTA : 0);
            blocks.takes("no blocks of at most " + hard, x -> x.chown(1, 2, 1, 5), 0);
        }
    }

    private static void softLimitsOfChown() {
        for (int soft = 0; soft <= 3; soft++) {
            for (int minutes = 0; minutes < 2; minutes++) {
                int limit = soft;
                int grace = minutes;
                Twins blocks = new Twins(DUE, x -> {
                    threeBlocks(x);
                    x.tick(7);
                    x.grace(1, 0, grace);
                    x.limit(1, 5, 0, limit, NONE);
                });
                String what = "three blocks, soft " + soft + ", grace " + grace;
                blocks.answers(what, x -> x.chown(1, 1, 1, 5), soft < 2 && grace == 0 ? NO_QUOTA : 0);
                blocks.takes(what + ": time", x -> x.chown(0, 1, 1, 5) + x.charged(1, 5, 2), soft < 3 ? 7 + grace : NONE);
            }
        }
        Twins out = new Twins(DUE, x -> {
            threeBlocks(x);
            x.limit(1, 5, 1, 0, NONE);
            x.chown(1, 2, 1, 5);
        });
        out.takes("one is over", x -> x.inode(2, 2), 5);
        out.refuses("the time of inodes is out", x -> x.chown(1, 1, 1, 5), NO_QUOTA);
        out.takes("back again", x -> x.chown(1, 2, 1, 1) + x.charged(1, 5, 3), NONE);
    }

    private static void whatWasTheirsIsNotCharged() {
        Twins own = new Twins(DUE, x -> {
            threeBlocks(x);
            x.grace(0, 0, 3);
            x.grace(1, 0, 4);
            for (int what = 0; what < 2; what++) {
                x.limit(0, 1, what, 0, 0);
                x.limit(1, 1, what, 0, 0);
            }
            x.tick(9);
        });
        own.takes("as it is", x -> x.chown(1, 1, 1, 1), 0);
        own.takes("the owner's is not asked", x -> x.chown(1, 1, 1, 5), 0);
        own.takes("the user's time goes on", x -> x.chown(1, 1, 1, 5) + x.charged(0, 1, 2), 3);
        own.takes("the group's does not", x -> x.chown(1, 1, 1, 5) + x.charged(1, 1, 2), NONE);
        own.takes("the group's time goes on", x -> x.chown(0, 1, 9, 1) + x.charged(1, 1, 2), 4);
        own.takes("the user's does not", x -> x.chown(0, 1, 9, 1) + x.charged(0, 1, 2), NONE);
        own.takes("charged to the new owner", x -> x.chown(0, 1, 9, 1) + x.charged(0, 9, 0) * 10 + x.charged(0, 9, 1), 31);
        own.takes("no longer to the old one", x -> x.chown(0, 1, 9, 1) + x.charged(0, 1, 0) * 10 + x.charged(0, 1, 1), 1);
        own.takes("to the same group", x -> x.chown(0, 1, 9, 1) + x.charged(1, 1, 0) * 10 + x.charged(1, 1, 1), 32);
    }

    private static void keeperGivesBeyondLimits() {
        Twins limited = new Twins(DUE, x -> {
            threeBlocks(x);
            for (int what = 0; what < 2; what++) {
                x.limit(0, 9, what, 0, 0);
                x.limit(1, 9, what, 0, 0);
            }
        });
        limited.takes("all four limits", x -> x.chown(0, 1, 9, 9), 0);
        for (int kind = 0; kind < 2; kind++) {
            int ofKind = kind;
            limited.takes("blocks", x -> x.chown(0, 1, 9, 9) + x.charged(ofKind, 9, 0), 3);
            limited.takes("inodes", x -> x.chown(0, 1, 9, 9) + x.charged(ofKind, 9, 1), 1);
            limited.takes("times", x -> x.chown(0, 1, 9, 9) + x.charged(ofKind, 9, 2) + x.charged(ofKind, 9, 3), 0);
        }
    }

    private static void chownRefusalsInOrder() {
        Twins limited = new Twins(DUE, x -> {
            threeBlocks(x);
            x.limit(1, 5, 1, 0, 0);
            x.limit(1, 6, 1, 0, 0);
            x.limit(0, 2, 1, 0, 0);
            x.member(2, 5, true);
        });
        limited.refuses("no group before denied", x -> x.chown(2, 1, 1, 16), BAD);
        limited.refuses("no owner before no quota", x -> x.chown(1, 1, 16, 5), BAD);
        limited.refuses("the root before denied", x -> x.chown(2, 0, 2, 5), BAD);
        limited.refuses("denied before no quota of the group", x -> x.chown(1, 1, 1, 6), DENIED);
        limited.refuses("denied before no quota of the user", x -> x.chown(1, 1, 2, 1), DENIED);
        limited.refuses("not its owner, before no quota", x -> x.chown(2, 1, 1, 5), DENIED);
        limited.refuses("no quota", x -> x.chown(1, 1, 1, 5), NO_QUOTA);
    }

    private static void kindsIdsAndBitsOfAcl() {
        for (int kind = 0; kind < 2; kind++) {
            for (int id : new int[] {0, 15}) {
                for (int bits : new int[] {0, 7}) {
                    int ofKind = kind;
                    String what = "acl of " + kind + ", " + id + ", " + bits;
                    TWO.takes(what, x -> x.acl(1, 1, false, ofKind, id, bits), 1);
                    TWO.takes(what + ": kind", x -> x.acl(1, 1, false, ofKind, id, bits) * 0 + x.list(1, false, 5), kind);
                    TWO.takes(what + ": id", x -> x.acl(1, 1, false, ofKind, id, bits) * 0 + x.list(1, false, 6), id);
                    TWO.takes(what + ": bits", x -> x.acl(1, 1, false, ofKind, id, bits) * 0 + x.list(1, false, 7), bits);
                    TWO.takes(what + ": limit", x -> x.acl(1, 1, false, ofKind, id, bits) * 0 + x.list(1, false, 1), 4 | bits);
                    TWO.takes(what + ": taken", x -> x.acl(1, 1, false, ofKind, id, bits) * 0 + x.acl(1, 1, false, ofKind, id, NONE), 0);
                }
            }
        }
        for (int inode = 1; inode <= 2; inode++) {
            int of = inode;
            boolean fresh = inode == 2;
            TWO.bad("kind", (x, kind) -> x.acl(1, of, fresh, kind, 3, 7), -1, 2, LEAST, MOST);
            TWO.bad("user", (x, id) -> x.acl(1, of, fresh, 0, id, 7), -1, 16, LEAST, MOST);
            TWO.bad("group", (x, id) -> x.acl(1, of, fresh, 1, id, 7), -1, 16, LEAST, MOST);
            TWO.bad("bits", (x, bits) -> x.acl(1, of, fresh, 0, 3, bits), -2, 8, LEAST, MOST);
        }
    }

    private static void inodesAndUsersOfAcl() {
        TWO.takes("the root", x -> x.acl(0, 0, false, 0, 3, 7), 1);
        TWO.takes("the root for new ones", x -> x.acl(0, 0, true, 0, 3, 7), 1);
        LAST.takes("the last", x -> x.acl(1, 63, false, 0, 3, 7) + x.list(63, false, 0), 2);
        TWO.bad("inode", (x, inode) -> x.acl(0, inode, false, 0, 3, 7), -1, 3, 63, 64, 65, LEAST, MOST);
        TWO.bad("user", (x, user) -> x.acl(user, 1, false, 0, 3, 7), -1, 16, LEAST, MOST);
    }

    private static void listsForNewOnesAreOfFolders() {
        TWO.refuses("told for a file", x -> x.acl(1, 1, true, 0, 3, 7), BAD);
        TWO.refuses("told for a file by the keeper", x -> x.acl(0, 1, true, 0, 3, 7), BAD);
        TWO.refuses("taken from a file", x -> x.acl(1, 1, true, 0, 3, NONE), BAD);
        TWO.takes("of a folder", x -> x.acl(1, 2, true, 0, 3, 7), 1);
        TWO.takes("it is another list", x -> x.acl(1, 2, true, 0, 3, 7) + x.acl(1, 2, false, 0, 4, 7), 2);
        TWO.takes("mode stays", x -> x.acl(1, 2, true, 0, 3, 7) * 0 + x.inode(2, 3), 0750);
    }

    private static void whoMayAcl() {
        TWO.takes("its owner", x -> x.acl(1, 1, false, 0, 3, 7), 1);
        TWO.takes("the keeper", x -> x.acl(0, 1, false, 0, 3, 7), 1);
        TWO.refuses("one of its group", x -> x.acl(2, 1, false, 0, 2, 7), DENIED);
        TWO.refuses("another", x -> x.acl(3, 2, true, 0, 3, 7), DENIED);
        TWO.refuses("the root by another", x -> x.acl(1, 0, false, 0, 1, 7), DENIED);
        Twins listed = new Twins(DUE, x -> {
            two(x);
            x.acl(1, 1, false, 0, 3, 7);
        });
        listed.refuses("one with an entry of all bits", x -> x.acl(3, 1, false, 0, 4, 7), DENIED);
        listed.refuses("one that would take its own", x -> x.acl(3, 1, false, 0, 3, NONE), DENIED);
    }

    private static void eightEntries() {
        for (int i = 0; i < 2; i++) {
            boolean fresh = i == 1;
            Twins full = new Twins(DUE, x -> {
                two(x);
                eight(x, 2, fresh);
            });
            full.takes("how many", x -> x.list(2, fresh, 0), 8);
            full.refuses("a ninth user", x -> x.acl(1, 2, fresh, 0, 3, 7), NO_ROOM);
            full.refuses("a ninth group", x -> x.acl(1, 2, fresh, 1, 8, 0), NO_ROOM);
            full.refuses("a ninth by the keeper", x -> x.acl(0, 2, fresh, 0, 15, 7), NO_ROOM);
            for (int kind = 0; kind < 2; kind++) {
                int ofKind = kind;
                full.takes("one of the eight anew", x -> x.acl(1, 2, fresh, ofKind, 4, 1), 8);
                full.takes("its bits", x -> x.acl(1, 2, fresh, ofKind, 7, 1) * 0 + x.list(2, fresh, ofKind * 12 + 16), 1);
                full.takes("one is taken", x -> x.acl(1, 2, fresh, ofKind, 7, NONE), 7);
                full.takes("then there is room", x -> x.acl(1, 2, fresh, ofKind, 7, NONE) * 0 + x.acl(1, 2, fresh, 1 - ofKind, 15, 7), 8);
            }
            full.takes("the other list has room", x -> x.acl(1, 2, !fresh, 0, 3, 7), 1);
            full.takes("another inode has room", x -> x.acl(1, 1, false, 0, 3, 7), 1);
        }
        Twins seven = new Twins(DUE, x -> {
            two(x);
            eight(x, 1, false);
            x.acl(1, 1, false, 1, 7, NONE);
        });
        seven.takes("the eighth", x -> x.acl(1, 1, false, 1, 15, 7), 8);
        seven.takes("of the seven", x -> x.acl(1, 1, false, 0, 7, 7), 7);
    }

    private static void noneToBeTaken() {
        for (int i = 0; i < 2; i++) {
            boolean fresh = i == 1;
            TWO.refuses("no list", x -> x.acl(1, 2, fresh, 0, 3, NONE), MISSING);
            TWO.refuses("no list, for the keeper", x -> x.acl(0, 2, fresh, 0, 3, NONE), MISSING);
            Twins one = new Twins(DUE, x -> {
                two(x);
                x.acl(1, 2, fresh, 0, 3, 0);
            });
            one.refuses("another id", x -> x.acl(1, 2, fresh, 0, 4, NONE), MISSING);
            one.refuses("another kind", x -> x.acl(1, 2, fresh, 1, 3, NONE), MISSING);
            one.refuses("another list", x -> x.acl(1, 2, !fresh, 0, 3, NONE), MISSING);
            one.takes("one without bits", x -> x.acl(1, 2, fresh, 0, 3, NONE), 0);
            one.takes("twice", x -> x.acl(1, 2, fresh, 0, 3, NONE) + x.acl(1, 2, fresh, 0, 3, NONE), MISSING);
        }
    }

    private static void aclRefusalsInOrder() {
        Twins full = new Twins(DUE, x -> {
            two(x);
            eight(x, 1, false);
            eight(x, 2, true);
        });
        full.refuses("bits before denied", x -> x.acl(2, 1, false, 0, 3, 8), BAD);
        full.refuses("kind before missing", x -> x.acl(1, 1, false, 2, 3, NONE), BAD);
        full.refuses("id before no room", x -> x.acl(1, 1, false, 0, 16, 7), BAD);
        full.refuses("fresh of a file before denied", x -> x.acl(2, 1, true, 0, 3, 7), BAD);
        full.refuses("denied before missing", x -> x.acl(2, 1, false, 0, 3, NONE), DENIED);
        full.refuses("denied before no room", x -> x.acl(2, 1, false, 0, 3, 7), DENIED);
        full.refuses("missing, where there are eight", x -> x.acl(1, 1, false, 0, 3, NONE), MISSING);
        full.refuses("denied before missing, for new ones", x -> x.acl(2, 2, true, 0, 3, NONE), DENIED);
        full.refuses("denied before no room, for new ones", x -> x.acl(2, 2, true, 0, 3, 7), DENIED);
        full.refuses("missing, where there are eight for new ones", x -> x.acl(1, 2, true, 0, 3, NONE), MISSING);
    }

    private static void theLimitComesAnew() {
        for (int bits = 0; bits < 8; bits++) {
            for (int group = 0; group < 8; group++) {
                int told = bits;
                int has = group;
                Twins made = new Twins(DUE, x -> {
                    x.create(1, 0, 2, 0700 + has * 8 + 1);
                    x.acl(1, 1, false, 0, 3, told);
                });
                String what = "group " + group + ", entry " + bits;
                made.takes(what + ": limit", x -> x.list(1, false, 1), bits | group);
                made.takes(what + ": group bits", x -> x.list(1, false, 2), group);
                made.takes(what + ": mode", x -> x.inode(1, 3), 0701 + (bits | group) * 8);
                made.takes(what + ": another entry", x -> x.chmod(1, 1, 0) * 0 + x.acl(1, 1, false, 1, 3, 2) * 0 + x.list(1, false, 1), bits | group | 2);
                made.takes(what + ": the same anew", x -> x.chmod(1, 1, 0) * 0 + x.acl(1, 1, false, 0, 3, told) * 0 + x.list(1, false, 1), bits | group);
                made.takes(what + ": fewer bits", x -> x.acl(1, 1, false, 0, 3, 0) * 0 + x.list(1, false, 1), group);
                made.takes(what + ": another is taken", x -> x.acl(1, 1, false, 1, 3, 7) * 0 + x.acl(1, 1, false, 1, 3, NONE) * 0 + x.list(1, false, 1), bits | group);
                made.takes(what + ": one refused tells no limit", x -> x.chmod(1, 1, 0) * 0 + x.acl(1, 1, false, 1, 3, NONE) * 0 + x.list(1, false, 1), 0);
                made.takes(what + ": one for new ones tells no limit", x -> x.chmod(1, 1, 0) * 0 + x.acl(1, 1, true, 1, 3, 7) * 0 + x.list(1, false, 1), 0);
            }
        }
    }

    private static void theListGoesWithItsLastEntry() {
        for (int group = 0; group < 8; group++) {
            int has = group;
            Twins made = new Twins(DUE, x -> {
                x.create(1, 0, 2, 01602 + has * 8);
                x.acl(1, 1, false, 0, 3, 7);
                x.chmod(1, 1, 03053);
            });
            made.takes("mode before", x -> x.inode(1, 3), 03053);
            made.takes("how many", x -> x.acl(1, 1, false, 0, 3, NONE), 0);
            made.takes("mode's group bits are the list's", x -> x.acl(1, 1, false, 0, 3, NONE) + x.inode(1, 3), 03003 + group * 8);
            made.takes("no limit", x -> x.acl(1, 1, false, 0, 3, NONE) + x.list(1, false, 1), NONE);
            made.takes("no group bits", x -> x.acl(1, 1, false, 0, 3, NONE) + x.list(1, false, 2), NONE);
            made.takes("another list's group bits are mode's", x -> x.acl(1, 1, false, 0, 3, NONE) + x.chmod(1, 1, 0020) * 0 + x.acl(1, 1, false, 0, 3, 0) * 0 + x.list(1, false, 2), 2);
            made.takes("not the last", x -> x.acl(1, 1, false, 1, 3, 0) * 0 + x.acl(1, 1, false, 0, 3, NONE) * 0 + x.list(1, false, 2), group);
        }
    }

    private static void theListForNewOnesGoesWithItsLastEntry() {
        Twins made = new Twins(DUE, x -> {
            x.create(1, 0, 2, 0741);
            x.acl(1, 1, true, 0, 3, 2);
            x.chmod(1, 1, 0);
        });
        int[] due = {1, 6, 4, 7, 1, 0, 3, 2, NONE};
        for (int what = 0; what < due.length; what++) {
            int field = what;
            made.takes("as in mode when it was made: " + what, x -> x.list(1, true, field), due[what]);
            made.takes("gone: " + what, x -> x.acl(1, 1, true, 0, 3, NONE) * 0 + x.list(1, true, field), what == 0 ? 0 : NONE);
        }
        made.takes("mode stays", x -> x.acl(1, 1, true, 0, 3, NONE) + x.inode(1, 3), 0);
        made.takes("made anew, of what mode is then", x -> x.acl(1, 1, true, 0, 3, NONE) + x.chmod(1, 1, 0352) * 0
                + x.acl(1, 1, true, 0, 3, 0) * 0 + x.list(1, true, 3) * 100 + x.list(1, true, 2) * 10 + x.list(1, true, 4), 352);
        Twins both = new Twins(DUE, x -> {
            x.create(1, 0, 2, 0740);
            x.acl(1, 1, false, 0, 3, 2);
            x.acl(1, 1, true, 0, 4, 0);
        });
        both.takes("its group bits are those in mode, which are the limit", x -> x.list(1, true, 2), 6);
    }

    private static void whatsOfList() {
        for (int i = 0; i < 2; i++) {
            boolean fresh = i == 1;
            Twins full = new Twins(DUE, x -> {
                two(x);
                eight(x, 2, fresh);
            });
            int[] due = {8, 7, 5, 7, 0};
            for (int what = 0; what < 29; what++) {
                int field = what;
                int entry = (what - 5) / 3;
                int ofEntry = what % 3 == 2 ? entry / 4 : what % 3 == 0 ? 4 + entry % 4 : entry;
                full.takes("what " + what, x -> x.list(2, fresh, field), what < 5 ? due[what] : ofEntry);
            }
            for (int what : new int[] {29, 30, 31, 32, 1000, MOST - 1, MOST}) {
                full.takes("none such: " + what, x -> x.list(2, fresh, what), NONE);
            }
            full.bad("what", (x, what) -> x.list(2, fresh, what), -1, -2, LEAST);
        }
        Twins one = new Twins(DUE, x -> {
            two(x);
            x.acl(1, 1, false, 1, 15, 7);
        });
        one.takes("the last of one", x -> x.list(1, false, 7), 7);
        one.takes("behind the last of one", x -> x.list(1, false, 8), NONE);
    }

    private static void inodesOfList() {
        for (int i = 0; i < 2; i++) {
            boolean fresh = i == 1;
            TWO.takes("the root", x -> x.list(0, fresh, 0), 0);
            LAST.takes("the last", x -> x.list(63, fresh, 0), 0);
            TWO.bad("inode", (x, inode) -> x.list(inode, fresh, 0), -1, 3, 63, 64, 65, LEAST, MOST);
            TWO.refuses("inode and what", x -> x.list(64, fresh, -1), BAD);
        }
    }

    private static void noList() {
        for (int inode = 0; inode <= 2; inode++) {
            for (int what = 0; what < 30; what++) {
                int of = inode;
                int field = what;
                TWO.takes("none of " + inode + ": " + what, x -> x.list(of, false, field), what == 0 ? 0 : NONE);
                TWO.takes("none for new ones of " + inode + ": " + what, x -> x.list(of, true, field), what == 0 ? 0 : NONE);
            }
            int of = inode;
            TWO.bad("what", (x, what) -> x.list(of, false, what), -1, LEAST);
        }
    }

    private static void idsOfMay() {
        TWO.takes("the least user", x -> x.may(0, 1, 6), 1);
        TWO.takes("the last user", x -> x.may(15, 1, 6), 0);
        TWO.takes("the root", x -> x.may(15, 0, 7), 1);
        LAST.takes("the last inode", x -> x.may(1, 63, 7), 1);
        TWO.bad("user", (x, user) -> x.may(user, 1, 0), -1, 16, LEAST, MOST);
        TWO.bad("inode", (x, inode) -> x.may(0, inode, 0), -1, 3, 63, 64, 65, LEAST, MOST);
        TWO.bad("x", (x, asked) -> x.may(1, 1, asked), -1, 8, LEAST, MOST);
        TWO.bad("x of the keeper", (x, asked) -> x.may(0, 1, asked), -1, 8, LEAST, MOST);
    }

    private static void bitsOfMay() {
        for (int bits = 0; bits < 8; bits++) {
            for (int limit = 0; limit < 8; limit++) {
                GuardedInodes x = new GuardedInodes();
                x.create(1, 0, 1, bits * 64 + 56);
                x.first(2, 1);
                x.acl(1, 1, false, 0, 3, bits);
                x.acl(1, 1, false, 1, 4, bits);
                x.member(3, 4, true);
                x.acl(1, 1, false, 1, 4, 7);
                x.create(1, 0, 1, bits * 8);
                x.acl(1, 2, false, 1, 4, bits);
                x.chmod(1, 1, bits * 64 + limit * 8 + bits);
                x.chmod(1, 2, 0700 + limit * 8 + 7 - bits);
                for (int asked = 0; asked < 8; asked++) {
                    String what = "bits " + bits + ", limit " + limit + ", x " + asked;
                    int has = (bits & asked) == asked ? 1 : 0;
                    int both = (bits & limit & asked) == asked ? 1 : 0;
                    DUE.is(what + ": owner", x.may(1, 1, asked), has);
                    DUE.is(what + ": an entry of a user, before one of its group", x.may(3, 1, asked), both);
                    DUE.is(what + ": others", x.may(5, 1, asked), has);
                    DUE.is(what + ": group bits", x.may(2, 2, asked), both);
                    DUE.is(what + ": an entry of a group", x.may(4, 2, asked), both);
                    DUE.is(what + ": others beside", x.may(5, 2, asked), (7 - bits & asked) == asked ? 1 : 0);
                }
            }
        }
    }

    private static void entriesOfTheLeastAndTheLast() {
        for (int id : new int[] {0, 15}) {
            Twins file = new Twins(DUE, x -> {
                x.create(1, 0, 1, 0007);
                x.acl(1, 1, false, 1, id, 5);
                x.member(9, id, true);
                x.first(10, id);
                x.create(1, 0, 1, 0007);
                x.acl(1, 2, false, 0, 15, 5);
            });
            for (int user : new int[] {9, 10}) {
                file.takes("entry of group " + id + " has it", x -> x.may(user, 1, 5), 1);
                file.takes("entry of group " + id + " has it not", x -> x.may(user, 1, 2), 0);
            }
            file.takes("no entry", x -> x.may(11, 1, 7), 1);
            file.takes("the last user's entry has it", x -> x.may(15, 2, 5), 1);
            file.takes("the last user's entry has it not", x -> x.may(15, 2, 2), 0);
        }
    }

    private static void keeperMayExecuteSomeFiles() {
        for (int mode = 0; mode < 512; mode++) {
            GuardedInodes x = new GuardedInodes();
            x.create(1, 0, 1, mode);
            x.create(1, 0, 2, mode);
            int some = (mode & 0111) != 0 ? 1 : 0;
            for (int asked = 0; asked < 8; asked++) {
                DUE.is("file of " + mode + ", x " + asked, x.may(0, 1, asked), (asked & 1) == 0 ? 1 : some);
                DUE.is("folder of " + mode + ", x " + asked, x.may(0, 2, asked), 1);
            }
        }
        for (int bits = 0; bits < 8; bits++) {
            int has = bits;
            Twins listed = new Twins(DUE, x -> {
                x.create(0, 0, 1, has * 8);
                x.acl(0, 1, false, 0, 3, 0);
                x.chmod(0, 1, 0);
                x.create(1, 0, 1, 0);
                x.acl(1, 2, false, 0, 3, has);
                x.chmod(1, 2, 0);
                x.create(1, 0, 1, 0);
                x.acl(1, 3, false, 1, 3, 0);
                x.chmod(1, 3, has * 8);
            });
            listed.takes("group bits " + bits + ", cut by no limit", x -> x.may(0, 1, 1), bits & 1);
            listed.takes("entry " + bits + ", cut by no limit", x -> x.may(0, 2, 7), bits & 1);
            listed.takes("limit " + bits, x -> x.may(0, 3, 1), bits & 1);
            listed.takes("reading and writing", x -> x.may(0, 2, 6), 1);
        }
    }
}
