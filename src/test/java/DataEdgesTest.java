/** The boundary cases of promises 8 to 10: write, read, resize. */
public final class DataEdgesTest {
    private static final int NONE = GuardedInodes.NONE, BAD = GuardedInodes.BAD, DENIED = GuardedInodes.DENIED;
    private static final int NO_ROOM = GuardedInodes.NO_ROOM, NO_QUOTA = GuardedInodes.NO_QUOTA;
    private static final int LEAST = Integer.MIN_VALUE, MOST = Integer.MAX_VALUE;
    private static final Due DUE = new Due();
    /** 1 is an empty file, 2 a folder, 3 a file that is full of data; all of user 1. */
    private static final Twins THREE = new Twins(DUE, DataEdgesTest::three);

    public static void main(String[] args) {
        placesOfWrite();
        placesNotOfWrite();
        bytesOfW();
        filesOfWrite();
        usersOfData();
        bitsThatDataNeeds();
        aPartGetsTheLeastBlockAllZero();
        aBlockLacks();
        theLastBlocks();
        hardLimitOfWrite();
        softLimitOfWrite();
        oneAfterTheOther();
        keeperWritesBeyondLimits();
        writeRefusalsInOrder();
        placesOfRead();
        filesOfRead();
        bytesBehindSize();
        bytesLikeRefusals();
        sizesOfResize();
        filesOfResize();
        everySizeThatBecomesLess();
        aSizeThatBecomesMore();
        resizeGivesBack();
        DUE.end();
    }

    private static void three(GuardedInodes x) {
        x.create(1, 0, 1, 0600);
        x.create(1, 0, 2, 0777);
        x.create(1, 0, 1, 0600);
        fill(x, 3);
    }

    private static void fill(GuardedInodes x, int file) {
        for (int place = 0; place < 768; place += 8) {
            x.write(0, file, place, 8, -1);
        }
    }

    /** All blocks but so many are used; 1 to 22 are files of user 1, 22 has no more than its first parts. */
    private static void fillDisk(GuardedInodes x, int left) {
        for (int file = 1; file <= 22; file++) {
            x.create(1, 0, 1, 0600);
        }
        for (int part = 0; part + 1 < 256 - left; part += 2) {
            x.write(1, 1 + part / 12, part % 12 * 64 + 60, 8, -1);
        }
        if (left % 2 == 1) {
            x.write(1, 22, 128, 1, -1);
        }
    }

    private static void placesOfWrite() {
        for (int n = 1; n <= 8; n++) {
            for (int place = 0; place <= 768 - n; place++) {
                GuardedInodes x = new GuardedInodes();
                x.create(1, 0, 1, 0600);
                String call = "write of " + n + " at " + place;
                DUE.is(call, x.write(1, 1, place, n, -1), place + n);
                DUE.is(call + ": blocks", x.inode(1, 7), (place + n - 1) / 64 - place / 64 + 1);
                DUE.is(call + ": its first part", x.inode(1, 9 + place / 64), 0);
                DUE.is(call + ": its last part", x.inode(1, 9 + (place + n - 1) / 64), (place + n - 1) / 64 - place / 64);
                DUE.is(call + ": its bytes", x.read(1, 1, place, n), n == 8 ? -1 : (1L << 8 * n) - 1);
                if (place > 0) {
                    DUE.is(call + ": the byte before", x.read(1, 1, place - 1, 1), 0);
                }
            }
        }
    }

    private static void placesNotOfWrite() {
        for (int n = 1; n <= 8; n++) {
            int many = n;
            THREE.bad("place for " + n + ":", (x, place) -> x.write(1, 3, place, many, 0), -1, 769 - n, 768, LEAST, MOST);
        }
        THREE.bad("n", (x, n) -> x.write(1, 3, 0, n, 0), 0, 9, -1, 768, LEAST, MOST);
        THREE.bad("n at the end", (x, n) -> x.write(1, 3, 760, n, 0), 0, 9, LEAST, MOST);
    }

    private static void bytesOfW() {
        long w = 0x8182838485868788L;
        for (int n = 1; n <= 8; n++) {
            int many = n;
            long due = n == 8 ? w : w & ((1L << 8 * n) - 1);
            THREE.takes("all " + n, x -> x.write(1, 1, 60, many, w) * 0L + x.read(1, 1, 60, many), due);
            THREE.takes("the highest of " + n + " first", x -> x.write(1, 1, 60, many, w) * 0L + x.read(1, 1, 60, 1), 0x88 - n + 1);
            THREE.takes("the byte behind " + n, x -> x.write(1, 3, 60, many, 0) * 0L + x.read(1, 3, 60 + many, 1), 255);
        }
        THREE.takes("what is above n bytes", x -> x.write(1, 1, 0, 1, 256) * 0L + x.read(1, 1, 0, 1), 0);
        THREE.takes("the least w", x -> x.write(1, 1, 0, 8, Long.MIN_VALUE) * 0L + x.read(1, 1, 0, 8), Long.MIN_VALUE);
        THREE.takes("the most w", x -> x.write(1, 1, 0, 8, Long.MAX_VALUE) * 0L + x.read(1, 1, 0, 8), Long.MAX_VALUE);
    }

    private static void filesOfWrite() {
        THREE.refuses("the root is no file", x -> x.write(0, 0, 0, 1, 1), BAD);
        THREE.refuses("a folder is no file", x -> x.write(1, 2, 0, 1, 1), BAD);
        THREE.bad("inode", (x, inode) -> x.write(0, inode, 0, 1, 1), -1, 4, 63, 64, 65, LEAST, MOST);
        Twins last = new Twins(DUE, x -> {
            for (int made = 1; made <= 63; made++) {
                x.create(1, 0, 1, 0600);
            }
        });
        last.takes("the last inode", x -> x.write(1, 63, 0, 1, 7) + x.read(1, 63, 0, 1) + x.resize(1, 63, 0), 9);
    }

    private static void usersOfData() {
        Twins open = new Twins(DUE, x -> {
            x.create(1, 0, 1, 0666);
            x.write(1, 1, 0, 1, 9);
        });
        for (int user : new int[] {0, 15}) {
            open.takes("write by " + user, x -> x.write(user, 1, 0, 1, 7), 1);
            open.takes("read by " + user, x -> x.read(user, 1, 0, 1), 9);
            open.takes("resize by " + user, x -> x.resize(user, 1, 0), 1);
        }
        open.bad("write by", (x, user) -> x.write(user, 1, 0, 1, 7), -1, 16, LEAST, MOST);
        open.bad("read by", (x, user) -> x.read(user, 1, 0, 1), -1, 16, LEAST, MOST);
        open.bad("resize by", (x, user) -> x.resize(user, 1, 0), -1, 16, LEAST, MOST);
    }

    private static void bitsThatDataNeeds() {
        for (int bits = 0; bits < 8; bits++) {
            int has = bits;
            Twins files = new Twins(DUE, x -> {
                x.create(1, 0, 1, 0777);
                x.write(1, 1, 0, 1, 9);
                x.chmod(1, 1, has * 64 + (7 - has) * 9);
                x.create(2, 0, 1, 0777);
                x.write(2, 2, 0, 1, 9);
                x.chmod(2, 2, (7 - has) * 72 + has);
            });
            for (int inode = 1; inode <= 2; inode++) {
                int file = inode;
                files.answers("write with " + bits, x -> x.write(1, file, 0, 1, 7), (has & 2) != 0 ? 1 : DENIED);
                files.answers("read with " + bits, x -> x.read(1, file, 0, 1), (has & 4) != 0 ? 9 : DENIED);
                files.answers("resize with " + bits, x -> x.resize(1, file, 2), (has & 2) != 0 ? 1 : DENIED);
            }
            files.takes("the keeper writes", x -> x.write(0, 1, 0, 1, 7), 1);
            files.takes("the keeper reads", x -> x.read(0, 1, 0, 1), 9);
            files.takes("the keeper resizes", x -> x.resize(0, 1, 2), 1);
        }
    }

    private static void aPartGetsTheLeastBlockAllZero() {
        THREE.takes("zeros are written, too", x -> x.write(1, 1, 0, 1, 0) * 0 + x.inode(1, 9), 12);
        THREE.takes("a hole has none", x -> x.write(1, 1, 767, 1, 1) * 0 + x.inode(1, 19), NONE);
        THREE.takes("behind a hole", x -> x.write(1, 1, 767, 1, 1) * 0 + x.inode(1, 20), 12);
        Twins given = new Twins(DUE, x -> {
            three(x);
            x.resize(1, 3, 640);
            x.remove(1, 2);
            x.write(1, 1, 0, 8, -1);
            x.resize(1, 3, 64);
        });
        given.takes("the least that is not used", x -> x.write(1, 1, 188, 8, 0) * 0 + x.inode(1, 11), 1);
        given.takes("and the next", x -> x.write(1, 1, 188, 8, 0) * 0 + x.inode(1, 12), 2);
        given.takes("all 0 before", x -> x.write(1, 1, 140, 1, 1) * 0L + x.read(1, 1, 132, 8), 0);
        given.takes("all 0 behind", x -> x.write(1, 1, 140, 1, 1) * 0L + x.resize(1, 1, 768) * 0L + x.read(1, 1, 141, 8), 0);
        given.takes("what has a block keeps it", x -> x.write(1, 3, 0, 8, 0) * 0 + x.inode(3, 9), 0);
    }

    private static void aBlockLacks() {
        Twins none = new Twins(DUE, x -> fillDisk(x, 0));
        none.takes("blocks not used", x -> x.count(1), 0);
        none.takes("the last block is used", x -> x.inode(22, 12), 255);
        none.refuses("one lacks", x -> x.write(1, 22, 256, 1, 1), NO_ROOM);
        none.refuses("one of two lacks", x -> x.write(1, 22, 252, 8, 1), NO_ROOM);
        none.refuses("two lack", x -> x.write(1, 22, 316, 8, 1), NO_ROOM);
        none.refuses("one lacks for the keeper", x -> x.write(0, 22, 256, 1, 1), NO_ROOM);
        none.takes("none is needed", x -> x.write(1, 22, 248, 8, 1), 256);
        none.takes("none is needed for two parts", x -> x.write(1, 22, 60, 8, 1), 196);
        none.takes("a size needs none", x -> x.resize(1, 22, 768), 196);
        none.takes("once one is given back", x -> x.resize(1, 1, 704) * 0 + x.write(1, 22, 256, 1, 1) * 1000 + x.inode(22, 13), 257011);
    }

    private static void theLastBlocks() {
        Twins one = new Twins(DUE, x -> fillDisk(x, 1));
        one.takes("blocks not used", x -> x.count(1), 1);
        one.refuses("two are needed, one is there", x -> x.write(1, 22, 252, 8, 1), NO_ROOM);
        one.refuses("two are needed by the keeper", x -> x.write(0, 22, 252, 8, 1), NO_ROOM);
        one.takes("one is needed, one is there", x -> x.write(1, 22, 188, 8, 1) * 1000 + x.inode(22, 12), 196255);
        Twins two = new Twins(DUE, x -> fillDisk(x, 2));
        two.takes("two are needed, two are there", x -> x.write(1, 22, 252, 8, 1) * 1000 + x.inode(22, 13), 260255);
        two.takes("then none is", x -> x.write(1, 22, 252, 8, 1) * 0 + x.count(1), 0);
    }

    private static void hardLimitOfWrite() {
        for (int kind = 0; kind < 2; kind++) {
            for (int hard = 0; hard <= 3; hard++) {
                int ofKind = kind;
                int limit = hard;
                Twins limited = new Twins(DUE, x -> {
                    x.create(1, 0, 1, 0602);
                    x.limit(ofKind, 1, 0, NONE, limit);
                    x.write(1, 1, 0, 1, 1);
                });
                int has = hard > 0 ? 1 : 0;
                limited.takes("blocks", x -> x.inode(1, 7), has);
                limited.answers("one more, of " + hard, x -> x.write(1, 1, 64, 1, 1), has + 1 > hard ? NO_QUOTA : 65);
                limited.answers("two more, of " + hard, x -> x.write(1, 1, 124, 8, 1), has + 2 > hard ? NO_QUOTA : 132);
                limited.answers("by another, of " + hard, x -> x.write(2, 1, 64, 1, 1), has + 1 > hard ? NO_QUOTA : 65);
                limited.takes("no more", x -> x.write(1, 1, 0, 1, 1), has == 1 ? 1 : NO_QUOTA);
            }
        }
    }

    private static void softLimitOfWrite() {
        for (int kind = 0; kind < 2; kind++) {
            for (int minutes = 2; minutes <= 4; minutes++) {
                int ofKind = kind;
                int later = minutes;
                Twins over = new Twins(DUE, x -> {
                    x.create(1, 0, 1, 0600);
                    x.grace(ofKind, 0, 3);
                    x.limit(ofKind, 1, 0, 1, NONE);
                    x.write(1, 1, 60, 8, 1);
                    x.tick(later);
                });
                over.takes("time", x -> x.charged(ofKind, 1, 2), 3);
                over.answers("after " + minutes + " of 3 minutes", x -> x.write(1, 1, 128, 1, 1), minutes < 3 ? 129 : NO_QUOTA);
                over.takes("no more, after " + minutes, x -> x.write(1, 1, 60, 8, 1), 68);
                over.takes("under the limit anew", x -> x.resize(1, 1, 0) * 0 + x.write(1, 1, 128, 1, 1), 129);
                over.takes("at the limit no time", x -> x.resize(1, 1, 64) * 0 + x.charged(ofKind, 1, 2), NONE);
            }
        }
    }

    private static void oneAfterTheOther() {
        for (int kind = 0; kind < 2; kind++) {
            for (int minutes = 0; minutes < 2; minutes++) {
                int ofKind = kind;
                int grace = minutes;
                Twins limited = new Twins(DUE, x -> {
                    x.create(1, 0, 1, 0600);
                    x.grace(ofKind, 0, grace);
                    x.limit(ofKind, 1, 0, 0, NONE);
                });
                limited.answers("both are over, grace " + grace, x -> x.write(1, 1, 60, 8, 1), grace == 0 ? NO_QUOTA : 68);
                limited.takes("one is over", x -> x.write(1, 1, 56, 8, 1), 64);
                limited.takes("the second alone is over", x -> x.limit(ofKind, 1, 0, 1, NONE) + x.write(1, 1, 60, 8, 1), 68);
            }
        }
    }

    private static void keeperWritesBeyondLimits() {
        Twins limited = new Twins(DUE, x -> {
            x.create(1, 0, 1, 0600);
            x.limit(0, 1, 0, 0, 0);
            x.limit(1, 1, 0, 0, 0);
        });
        limited.takes("two at once", x -> x.write(0, 1, 60, 8, 1), 68);
        limited.takes("when the time is out", x -> x.write(0, 1, 0, 8, 1) + x.write(0, 1, 64, 8, 1), 80);
        limited.takes("charged to its owner", x -> x.write(0, 1, 60, 8, 1) * 0 + x.charged(0, 1, 0), 2);
        limited.takes("charged to its group", x -> x.write(0, 1, 60, 8, 1) * 0 + x.charged(1, 1, 0), 2);
        limited.takes("not to the keeper", x -> x.write(0, 1, 60, 8, 1) * 0 + x.charged(0, 0, 0) + x.charged(1, 0, 0), 0);
        limited.takes("times run", x -> x.write(0, 1, 60, 8, 1) * 0 + x.charged(0, 1, 2) + x.charged(1, 1, 2), 0);
    }

    private static void writeRefusalsInOrder() {
        Twins none = new Twins(DUE, x -> {
            fillDisk(x, 0);
            x.limit(0, 1, 0, 0, 0);
            x.limit(1, 1, 0, 0, 0);
        });
        none.refuses("n before denied and all", x -> x.write(2, 22, 256, 0, 1), BAD);
        none.refuses("n before no room", x -> x.write(1, 22, 256, 9, 1), BAD);
        none.refuses("place before no room", x -> x.write(1, 22, 768, 1, 1), BAD);
        none.refuses("no file before denied", x -> x.write(2, 0, 256, 1, 1), BAD);
        none.refuses("denied before no room", x -> x.write(2, 22, 256, 1, 1), DENIED);
        none.refuses("no room before no quota", x -> x.write(1, 22, 256, 1, 1), NO_ROOM);
        Twins some = new Twins(DUE, x -> {
            fillDisk(x, 1);
            x.limit(0, 1, 0, 0, 0);
        });
        some.refuses("place before no quota", x -> x.write(1, 22, -1, 1, 1), BAD);
        some.refuses("denied before no quota", x -> x.write(2, 22, 256, 1, 1), DENIED);
        some.refuses("the second lacks, the first is over", x -> x.write(1, 22, 252, 8, 1), NO_ROOM);
        some.refuses("no quota", x -> x.write(1, 22, 256, 1, 1), NO_QUOTA);
    }

    private static void placesOfRead() {
        for (int n = 1; n <= 8; n++) {
            int many = n;
            long all = n == 8 ? -1 : (1L << 8 * n) - 1;
            THREE.takes("the first " + n, x -> x.read(1, 3, 0, many), all);
            THREE.takes("the last " + n, x -> x.read(1, 3, 768 - many, many), all);
            THREE.takes("the last " + n + " of an empty file", x -> x.read(1, 1, 768 - many, many), 0);
            THREE.bad("place for " + n + ":", (x, place) -> x.read(1, 3, place, many), -1, 769 - n, 768, LEAST, MOST);
        }
        THREE.bad("n", (x, n) -> x.read(1, 3, 0, n), 0, 9, -1, 768, LEAST, MOST);
    }

    private static void filesOfRead() {
        THREE.refuses("the root is no file", x -> x.read(0, 0, 0, 1), BAD);
        THREE.refuses("a folder is no file", x -> x.read(1, 2, 0, 1), BAD);
        THREE.bad("inode", (x, inode) -> x.read(0, inode, 0, 1), -1, 4, 63, 64, 67, LEAST, MOST);
        THREE.refuses("n before denied", x -> x.read(2, 3, 0, 9), BAD);
        THREE.refuses("place before denied", x -> x.read(2, 3, 768, 1), BAD);
        THREE.refuses("denied", x -> x.read(2, 3, 0, 1), DENIED);
        THREE.refuses("denied, where there is nothing", x -> x.read(2, 1, 767, 1), DENIED);
    }

    private static void bytesBehindSize() {
        for (int size = 1; size <= 16; size++) {
            int many = size;
            Twins file = new Twins(DUE, x -> {
                x.create(1, 0, 1, 0600);
                for (int place = 0; place < many; place++) {
                    x.write(1, 1, place, 1, 255);
                }
            });
            for (int place = 0; place <= 16; place++) {
                int from = place;
                int there = Math.max(0, Math.min(8, size - place));
                long due = there == 0 ? 0 : -1L << 8 * (8 - there);
                file.takes("size " + size + ", from " + place, x -> x.read(1, 1, from, 8), due);
            }
        }
    }

    private static void bytesLikeRefusals() {
        for (long word = -8; word < 0; word++) {
            long w = word;
            THREE.takes("bytes of " + word, x -> x.write(1, 1, 60, 8, w) * 0L + x.read(1, 1, 60, 8), word);
        }
    }

    private static void sizesOfResize() {
        THREE.takes("the least", x -> x.resize(1, 3, 0) * 1000 + x.inode(3, 4), 768000);
        THREE.takes("the most", x -> x.resize(1, 1, 768) * 1000 + x.inode(1, 4), 768);
        THREE.takes("as it is", x -> x.resize(1, 3, 768) * 1000 + x.inode(3, 7), 768012);
        THREE.bad("size", (x, size) -> x.resize(1, 3, size), -1, 769, LEAST, MOST);
        THREE.bad("size of an empty one", (x, size) -> x.resize(1, 1, size), -1, 769, LEAST, MOST);
    }

    private static void filesOfResize() {
        THREE.refuses("the root is no file", x -> x.resize(0, 0, 0), BAD);
        THREE.refuses("a folder is no file", x -> x.resize(1, 2, 0), BAD);
        THREE.bad("inode", (x, inode) -> x.resize(0, inode, 0), -1, 4, 63, 64, 67, LEAST, MOST);
        THREE.refuses("size before denied", x -> x.resize(2, 3, 769), BAD);
        THREE.refuses("no file before denied", x -> x.resize(2, 0, 1), BAD);
        THREE.refuses("denied", x -> x.resize(2, 3, 0), DENIED);
        THREE.refuses("denied, of the same size", x -> x.resize(2, 3, 768), DENIED);
    }

    private static void everySizeThatBecomesLess() {
        for (int size = 0; size <= 768; size++) {
            GuardedInodes x = new GuardedInodes();
            x.create(1, 0, 1, 0600);
            fill(x, 1);
            DUE.is("resize to " + size, x.resize(1, 1, size), 768);
            DUE.is("blocks at " + size, x.inode(1, 7), (size + 63) / 64);
            DUE.is("charged at " + size, x.charged(0, 1, 0), (size + 63) / 64);
            for (int part = 0; part < 12; part++) {
                DUE.is("part " + part + " at " + size, x.inode(1, 9 + part), part * 64 < size ? part : NONE);
            }
            x.resize(1, 1, 768);
            for (int place = 0; place < 768; place += 8) {
                int kept = Math.max(0, Math.min(8, size - place));
                DUE.is("bytes from " + place + " at " + size, x.read(1, 1, place, 8), kept == 0 ? 0 : -1L << 8 * (8 - kept));
            }
        }
    }

    private static void aSizeThatBecomesMore() {
        Twins holes = new Twins(DUE, x -> {
            x.create(1, 0, 1, 0600);
            x.write(1, 1, 100, 1, 255);
        });
        holes.takes("no block comes", x -> x.resize(1, 1, 768) * 0 + x.inode(1, 7), 1);
        holes.takes("nothing is charged", x -> x.resize(1, 1, 768) * 0 + x.charged(0, 1, 0), 1);
        holes.takes("what is written stays", x -> x.resize(1, 1, 768) * 0L + x.read(1, 1, 100, 1), 255);
        holes.takes("into a hole", x -> x.resize(1, 1, 30) * 1000 + x.inode(1, 7), 101000);
        holes.takes("and up again", x -> x.resize(1, 1, 30) * 0L + x.resize(1, 1, 768) * 0L + x.read(1, 1, 100, 1), 0);
        holes.takes("a write within keeps size", x -> x.resize(1, 1, 500) * 0 + x.write(1, 1, 492, 8, 1), 500);
        holes.takes("a write beyond does not", x -> x.resize(1, 1, 500) * 0 + x.write(1, 1, 493, 8, 1), 501);
    }

    private static void resizeGivesBack() {
        Twins over = new Twins(DUE, x -> {
            three(x);
            x.limit(0, 1, 0, 11, NONE);
            x.limit(1, 1, 0, 10, NONE);
        });
        over.takes("times at first", x -> x.charged(0, 1, 2) + x.charged(1, 1, 2), 0);
        over.takes("not a block: the time runs", x -> x.resize(1, 3, 705) * 0 + x.charged(0, 1, 2), 0);
        over.takes("a block: no time", x -> x.resize(1, 3, 704) * 0 + x.charged(0, 1, 2), NONE);
        over.takes("a block: the group is still over", x -> x.resize(1, 3, 704) * 0 + x.charged(1, 1, 2), 0);
        over.takes("two blocks: no time", x -> x.resize(1, 3, 640) * 0 + x.charged(1, 1, 2), NONE);
        over.takes("by another, from its owner", x -> x.resize(0, 3, 0) * 0 + x.charged(0, 1, 0) + x.charged(1, 1, 0), 0);
        over.takes("blocks not used", x -> x.resize(1, 3, 0) * 0 + x.count(1), 256);
        over.takes("at the limit, whatever it is, resize is not refused", x -> x.limit(0, 1, 0, 0, 0) + x.resize(1, 1, 768), 0);
    }
}
