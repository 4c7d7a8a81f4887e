/** The boundary cases of promises 16 to 20: feed, put, take, attribute, side. */
public final class AttributesEdgesTest {
    private static final int NONE = GuardedInodes.NONE, BAD = GuardedInodes.BAD, DENIED = GuardedInodes.DENIED;
    private static final int NO_ROOM = GuardedInodes.NO_ROOM, NO_QUOTA = GuardedInodes.NO_QUOTA;
    private static final int MISSING = GuardedInodes.MISSING;
    private static final int LEAST = Integer.MIN_VALUE, MOST = Integer.MAX_VALUE;
    private static final Due DUE = new Due();
    private static final Twins NEW = new Twins(DUE, x -> { });
    /** 1 is a file of user 1 that others may read; the value has three bytes. */
    private static final Twins FED = new Twins(DUE, AttributesEdgesTest::fed);
    private static final Twins LAST = new Twins(DUE, AttributesEdgesTest::upToTheLast);

    public static void main(String[] args) {
        bytesOfFeed();
        aFullValue();
        numbersOfPut();
        inodesAndUsersOfPut();
        whoMayPut();
        lengthsOfAValue();
        theTailHolds40();
        twoInTheTail();
        theSideBlockHolds64();
        aLowerOneComesBefore();
        oneTooLong();
        theSideBlockComesAndGoes();
        aBlockLacks();
        limitsOfPut();
        softLimitsOfPut();
        nothingOfTheRootIsCharged();
        putRefusalsInOrder();
        numbersOfTake();
        whoMayTake();
        takeRefusalsInOrder();
        takeNeverLacksRoom();
        takeGivesTheSideBlockBack();
        bytesOfAnAttribute();
        numbersOfAttribute();
        whoMayReadAttributes();
        numbersOfSide();
        DUE.end();
    }

    private static void feed(GuardedInodes x, int length) {
        for (int i = 0; i < length; i++) {
            x.feed((200 + i) % 256);
        }
    }

    private static int told(GuardedInodes x, int inode, int attribute, int length) {
        feed(x, length);
        return x.put(0, inode, attribute);
    }

    private static void fed(GuardedInodes x) {
        x.create(1, 0, 1, 0604);
        feed(x, 3);
    }

    private static void upToTheLast(GuardedInodes x) {
        for (int made = 1; made <= 63; made++) {
            x.create(1, 0, 1, 0600);
        }
    }

    private static void bytesOfFeed() {
        NEW.takes("the least", x -> x.feed(0) * 1000 + x.put(0, 0, 0) * 0 + x.attribute(0, 0, 0, 0), 1000);
        NEW.takes("the most", x -> x.feed(255) * 1000 + x.put(0, 0, 0) * 0 + x.attribute(0, 0, 0, 0), 1255);
        NEW.takes("no sign", x -> x.feed(128) * 1000 + x.put(0, 0, 0) * 0 + x.attribute(0, 0, 0, 0), 1128);
        NEW.bad("byte", (x, b) -> x.feed(b), -1, 256, 511, -255, LEAST, MOST);
        FED.bad("byte behind others", (x, b) -> x.feed(b), -1, 256);
    }

    private static void aFullValue() {
        Twins almost = new Twins(DUE, x -> feed(x, 59));
        almost.takes("the last byte", x -> x.feed(7), 60);
        almost.takes("it is the last", x -> x.feed(7) * 0 + x.put(0, 0, 0) * 0 + x.attribute(0, 0, 0, 59), 7);
        Twins full = new Twins(DUE, x -> {
            for (int i = 0; i < 60; i++) {
                x.feed(i);
            }
        });
        full.refuses("one too many", x -> x.feed(7), NO_ROOM);
        full.bad("bad before no room:", (x, b) -> x.feed(b), -1, 256);
        full.takes("once it is put", x -> x.put(0, 0, 0) * 0 + x.feed(7), 1);
        full.takes("not once a put is refused", x -> x.put(0, 0, 32) * 0 + x.feed(7), NO_ROOM);
    }

    private static void numbersOfPut() {
        for (int number : new int[] {0, 15, 16, 31}) {
            FED.takes("number " + number, x -> x.put(0, 1, number) * 10 + x.attribute(0, 1, number, NONE), 33);
        }
        FED.bad("number", (x, number) -> x.put(0, 1, number), -1, 32, 64, LEAST, MOST);
        FED.bad("number for its owner", (x, number) -> x.put(1, 1, number), -1, 32, LEAST, MOST);
    }

    private static void inodesAndUsersOfPut() {
        FED.takes("the root", x -> x.put(0, 0, 0), 3);
        LAST.takes("the last", x -> x.feed(9) * 0 + x.put(1, 63, 0) * 100 + x.attribute(1, 63, 0, 0), 109);
        FED.bad("inode", (x, inode) -> x.put(0, inode, 0), -1, 2, 63, 64, 65, LEAST, MOST);
        FED.bad("user", (x, user) -> x.put(user, 1, 0), -1, 16, LEAST, MOST);
        FED.takes("the last user", x -> x.chmod(1, 1, 0002) * 0 + x.put(15, 1, 0), 3);
    }

    private static void whoMayPut() {
        for (int bits = 0; bits < 8; bits++) {
            int has = bits;
            Twins file = new Twins(DUE, x -> {
                fed(x);
                x.chmod(1, 1, has * 64 + 7 - has);
            });
            file.answers("its owner with " + bits, x -> x.put(1, 1, 15), (bits & 2) != 0 ? 3 : DENIED);
            file.answers("another with " + (7 - bits), x -> x.put(2, 1, 15), (bits & 2) == 0 ? 3 : DENIED);
            file.takes("the keeper", x -> x.put(0, 1, 15), 3);
            file.takes("the keeper from 16 on", x -> x.put(0, 1, 16), 3);
        }
        Twins open = new Twins(DUE, x -> {
            fed(x);
            x.chmod(1, 1, 0777);
        });
        for (int number : new int[] {16, 17, 31}) {
            open.refuses("its owner, " + number, x -> x.put(1, 1, number), DENIED);
            open.refuses("another, " + number, x -> x.put(2, 1, number), DENIED);
        }
        open.takes("the last below 16", x -> x.put(2, 1, 15), 3);
    }

    private static void lengthsOfAValue() {
        Twins file = new Twins(DUE, x -> x.create(1, 0, 1, 0600));
        for (int length : new int[] {0, 1, 59, 60}) {
            file.takes("length " + length, x -> told(x, 1, 5, length), length);
            file.takes("length of what is there " + length, x -> told(x, 1, 5, length) * 0 + x.attribute(1, 1, 5, NONE), length);
            file.takes("the value is empty then " + length, x -> told(x, 1, 5, length) * 0 + x.feed(1), 1);
            file.takes("put anew as empty " + length, x -> told(x, 1, 5, length) * 0 + x.put(1, 1, 5) * 10 + x.attribute(1, 1, 5, NONE), 0);
        }
    }

    private static void theTailHolds40() {
        Twins file = new Twins(DUE, x -> x.create(1, 0, 1, 0600));
        for (int length = 30; length <= 60; length++) {
            int many = length;
            int beside = length > 37 ? 1 : 0;
            file.takes("side of " + length, x -> told(x, 1, 5, many) * 0 + x.side(1, 5), beside);
            file.takes("blocks of " + length, x -> told(x, 1, 5, many) * 0 + x.inode(1, 7), beside);
            file.takes("side block of " + length, x -> told(x, 1, 5, many) * 0 + x.inode(1, 8), beside == 1 ? 0 : NONE);
            file.takes("charged for " + length, x -> told(x, 1, 5, many) * 0 + x.charged(0, 1, 0) + x.charged(1, 1, 0), 2 * beside);
        }
    }

    private static void twoInTheTail() {
        for (int first = 0; first <= 34; first++) {
            for (int second = 33 - first; second <= 36 - first; second++) {
                GuardedInodes x = new GuardedInodes();
                x.create(1, 0, 1, 0600);
                told(x, 1, 20, Math.max(0, second));
                told(x, 1, 10, first);
                int all = 6 + first + Math.max(0, second);
                DUE.is("the lower of " + first + ", " + second, x.side(1, 10), 0);
                DUE.is("the higher of " + first + ", " + second, x.side(1, 20), all > 40 ? 1 : 0);
                DUE.is("a third of " + first + ", " + second, told(x, 1, 30, 0), 0);
                DUE.is("where the third lies", x.side(1, 30), all <= 40 && all + 3 > 40 || all > 40 && first > 34 ? 1 : 0);
            }
        }
        Twins many = new Twins(DUE, x -> {
            x.create(1, 0, 1, 0600);
            for (int number = 0; number < 13; number++) {
                x.put(0, 1, number);
            }
        });
        many.takes("thirteen empty ones", x -> x.side(1, 12) + x.inode(1, 7), 0);
        many.takes("a fourteenth", x -> x.put(0, 1, 31) + x.side(1, 31), 1);
        many.takes("one of a byte is the last", x -> told(x, 1, 12, 1) * 0 + x.side(1, 12), 0);
        many.takes("one of two bytes is not", x -> told(x, 1, 12, 2) * 0 + x.side(1, 12), 1);
    }

    private static void theSideBlockHolds64() {
        for (int length = 55; length <= 60; length++) {
            int first = length;
            Twins file = new Twins(DUE, x -> {
                x.create(1, 0, 1, 0600);
                told(x, 1, 2, 37);
                told(x, 1, 3, first);
            });
            file.takes("beside", x -> x.side(1, 3), 1);
            for (int more = 0; more <= 3; more++) {
                int second = more;
                Twins fed = new Twins(DUE, x -> {
                    x.create(1, 0, 1, 0600);
                    told(x, 1, 2, 37);
                    told(x, 1, 3, first);
                    feed(x, second);
                });
                int due = 6 + length + more <= 64 ? more : NO_ROOM;
                fed.answers("beside " + length + ": " + more, x -> x.put(1, 1, 4), due);
                fed.answers("beside " + length + " by the keeper: " + more, x -> x.put(0, 1, 31), due);
            }
        }
        Twins all = new Twins(DUE, x -> {
            x.create(1, 0, 1, 0600);
            for (int number = 0; number < 32; number++) {
                told(x, 1, number, number == 0 ? 1 : 0);
            }
        });
        all.takes("all 32", x -> x.side(1, 31) * 10 + x.side(1, 12), 10);
        all.takes("one more byte for one beside", x -> told(x, 1, 31, 7), 7);
        all.takes("and one too many", x -> told(x, 1, 31, 8), NO_ROOM);
    }

    private static void aLowerOneComesBefore() {
        Twins file = new Twins(DUE, x -> {
            x.create(1, 0, 1, 0600);
            told(x, 1, 10, 37);
        });
        file.takes("a lower one has the tail", x -> x.put(0, 1, 9) + x.side(1, 9), 0);
        file.takes("the other lies beside", x -> x.put(0, 1, 9) + x.side(1, 10), 1);
        file.takes("a higher one lies beside", x -> x.put(0, 1, 11) + x.side(1, 11), 1);
        file.takes("a long lower one lies beside", x -> told(x, 1, 9, 38) * 0 + x.side(1, 9), 1);
        file.takes("the other has the tail", x -> told(x, 1, 9, 38) * 0 + x.side(1, 10), 0);
        Twins beside = new Twins(DUE, x -> {
            x.create(1, 0, 1, 0600);
            told(x, 1, 10, 30);
            told(x, 1, 11, 10);
            told(x, 1, 12, 4);
        });
        beside.takes("one that has no room in the tail", x -> x.side(1, 11), 1);
        beside.takes("a later one that has", x -> x.side(1, 12), 0);
        for (int length = 21; length <= 22; length++) {
            int second = length;
            Twins pushed = new Twins(DUE, x -> {
                x.create(1, 0, 1, 0600);
                told(x, 1, 10, 37);
                told(x, 1, 11, second);
                feed(x, 15);
            });
            pushed.takes("the second is beside", x -> x.side(1, 10) * 10 + x.side(1, 11), 1);
            pushed.answers("what is put before pushes out 40 beside " + (3 + second), x -> x.put(1, 1, 0), second == 21 ? 15 : NO_ROOM);
            pushed.takes("both are beside, or stay", x -> x.put(1, 1, 0) * 0 + x.side(1, 10) * 10 + x.side(1, 11), second == 21 ? 11 : 1);
        }
        Twins full = new Twins(DUE, x -> {
            x.create(1, 0, 1, 0600);
            told(x, 1, 10, 37);
            told(x, 1, 11, 50);
        });
        full.refuses("what is put before would push out too much", x -> x.put(0, 1, 0), NO_ROOM);
        full.takes("what is put behind lies there", x -> x.put(0, 1, 12) + x.side(1, 12), 1);
    }

    private static void oneTooLong() {
        Twins file = new Twins(DUE, x -> {
            x.create(1, 0, 1, 0600);
            told(x, 1, 2, 37);
            told(x, 1, 3, 50);
            told(x, 1, 4, 8);
            feed(x, 9);
        });
        file.refuses("told anew, one byte too long", x -> x.put(1, 1, 4), NO_ROOM);
        file.takes("told anew, as long as before", x -> x.take(0, 1, 3) * 0 + x.put(1, 1, 4), 9);
        Twins same = new Twins(DUE, x -> {
            x.create(1, 0, 1, 0600);
            told(x, 1, 2, 37);
            told(x, 1, 3, 50);
            told(x, 1, 4, 8);
            feed(x, 8);
        });
        same.takes("its own room counts as free", x -> x.put(1, 1, 4), 8);
        same.refuses("another number has none", x -> x.put(1, 1, 5), NO_ROOM);
    }

    private static void theSideBlockComesAndGoes() {
        Twins file = new Twins(DUE, x -> {
            x.create(1, 0, 1, 0600);
            x.write(1, 1, 60, 8, -1);
            told(x, 1, 2, 38);
        });
        file.takes("the least that is not used", x -> x.inode(1, 8), 2);
        file.takes("blocks", x -> x.inode(1, 7), 3);
        file.takes("no part has it", x -> x.inode(1, 11), NONE);
        file.takes("another lies there, too", x -> told(x, 1, 1, 18) * 0 + told(x, 1, 3, 20) * 0 + x.inode(1, 7), 3);
        file.takes("gone when it is empty", x -> told(x, 1, 2, 37) * 0 + x.inode(1, 8), NONE);
        file.takes("gone from blocks", x -> told(x, 1, 2, 37) * 0 + x.inode(1, 7), 2);
        file.takes("gone from what is charged", x -> told(x, 1, 2, 37) * 0 + x.charged(0, 1, 0) * 10 + x.charged(1, 1, 0), 22);
        file.takes("not used then", x -> told(x, 1, 2, 37) * 0 + x.count(1), 254);
        file.takes("data stays without it", x -> told(x, 1, 2, 37) * 0L + x.read(1, 1, 60, 8), -1);
        file.takes("resize does not take it", x -> x.resize(1, 1, 0) * 0 + x.inode(1, 8), 2);
        file.takes("kept while something lies there", x -> told(x, 1, 1, 10) * 0 + told(x, 1, 3, 19) * 0 + x.inode(1, 8), 2);
    }

    /** All blocks but so many are used; 1 to 22 are files of user 1. */
    private static void fillDisk(GuardedInodes x, int left) {
        for (int file = 1; file <= 22; file++) {
            x.create(1, 0, 1, 0600);
        }
        for (int part = 0; part + 1 < 256 - left; part += 2) {
            x.write(1, 1 + part / 12, part % 12 * 64 + 60, 8, -1);
        }
        if (left % 2 == 1) {
            x.write(1, 22, 128, 1, -1);
        }
    }

    private static void aBlockLacks() {
        Twins none = new Twins(DUE, x -> {
            fillDisk(x, 0);
            feed(x, 38);
        });
        none.refuses("one lacks", x -> x.put(1, 1, 0), NO_ROOM);
        none.refuses("one lacks for the keeper", x -> x.put(0, 1, 31), NO_ROOM);
        none.refuses("one lacks for the root", x -> x.put(0, 0, 0), NO_ROOM);
        none.takes("once one is given back", x -> x.resize(1, 5, 704) * 0 + x.put(1, 1, 0) * 100 + x.inode(1, 8), 3859);
        Twins tail = new Twins(DUE, x -> {
            fillDisk(x, 0);
            feed(x, 37);
        });
        tail.takes("the tail needs none", x -> x.put(1, 1, 0), 37);
        Twins one = new Twins(DUE, x -> {
            fillDisk(x, 1);
            feed(x, 38);
        });
        one.takes("the last", x -> x.put(1, 1, 0) * 1000 + x.inode(1, 8), 38255);
        one.takes("what has a side block needs none", x -> x.put(1, 1, 0) * 0 + told(x, 1, 1, 38), NO_ROOM);
        one.takes("what has a side block needs none", x -> x.put(1, 1, 0) * 0 + told(x, 1, 0, 60), 60);
    }

    private static void limitsOfPut() {
        for (int kind = 0; kind < 2; kind++) {
            for (int hard = 0; hard <= 2; hard++) {
                int ofKind = kind;
                int limit = hard;
                Twins limited = new Twins(DUE, x -> {
                    x.create(1, 0, 1, 0602);
                    x.write(1, 1, 0, 1, 1);
                    x.limit(ofKind, 1, 0, NONE, limit);
                    feed(x, 38);
                });
                limited.answers("one more, of " + hard, x -> x.put(1, 1, 0), hard < 2 ? NO_QUOTA : 38);
                limited.answers("by another, of " + hard, x -> x.put(2, 1, 0), hard < 2 ? NO_QUOTA : 38);
                limited.takes("by the keeper, of " + hard, x -> x.put(0, 1, 0) * 10 + x.charged(ofKind, 1, 0), 382);
                limited.takes("where it is there already", x -> x.put(0, 1, 0) * 0 + x.feed(1) * 0 + x.put(1, 1, 0), 1);
                limited.takes("told anew beside", x -> x.put(0, 1, 0) * 0 + told(x, 1, 0, 1) * 0 + told(x, 1, 0, 60), 60);
            }
        }
    }

    private static void softLimitsOfPut() {
        for (int kind = 0; kind < 2; kind++) {
            for (int minutes = 1; minutes <= 3; minutes++) {
                int ofKind = kind;
                int later = minutes;
                Twins over = new Twins(DUE, x -> {
                    x.create(1, 0, 1, 0600);
                    x.grace(ofKind, 0, 2);
                    x.limit(ofKind, 1, 0, 0, NONE);
                    x.write(1, 1, 0, 1, 1);
                    x.tick(later);
                    feed(x, 38);
                });
                over.answers("after " + minutes + " of 2 minutes", x -> x.put(1, 1, 0), minutes < 2 ? 38 : NO_QUOTA);
                over.takes("under the limit anew", x -> x.resize(1, 1, 0) * 0 + x.put(1, 1, 0), 38);
                over.takes("time anew", x -> x.resize(1, 1, 0) * 0 + x.put(1, 1, 0) * 0 + x.charged(ofKind, 1, 2), later + 2);
            }
        }
    }

    private static void nothingOfTheRootIsCharged() {
        Twins limited = new Twins(DUE, x -> {
            x.limit(0, 0, 0, 0, 0);
            x.limit(1, 0, 0, 0, 0);
            x.limit(0, 1, 0, 0, 0);
            x.limit(1, 1, 0, 0, 0);
            feed(x, 60);
        });
        limited.takes("by a user", x -> x.put(1, 0, 0), 60);
        limited.takes("it is a block", x -> x.put(1, 0, 0) * 0 + x.inode(0, 7) * 1000 + x.count(1), 1255);
        for (int kind = 0; kind < 2; kind++) {
            int ofKind = kind;
            limited.takes("not charged to the keeper", x -> x.put(1, 0, 0) * 0 + x.charged(ofKind, 0, 0), 0);
            limited.takes("not charged to the user", x -> x.put(1, 0, 0) * 0 + x.charged(ofKind, 1, 0), 0);
            limited.takes("no time", x -> x.put(1, 0, 0) * 0 + x.charged(ofKind, 0, 2), NONE);
            limited.takes("not given back", x -> x.put(1, 0, 0) * 0 + x.take(1, 0, 0) * 0 + x.charged(ofKind, 0, 0), 0);
        }
    }

    private static void putRefusalsInOrder() {
        Twins full = new Twins(DUE, x -> {
            fillDisk(x, 0);
            x.limit(0, 1, 0, 0, 0);
            x.limit(1, 1, 0, 0, 0);
            feed(x, 60);
        });
        full.refuses("number before denied", x -> x.put(2, 1, 32), BAD);
        full.refuses("number before no room", x -> x.put(1, 1, -1), BAD);
        full.refuses("inode before no room", x -> x.put(1, 23, 0), BAD);
        full.refuses("denied before no room", x -> x.put(2, 1, 0), DENIED);
        full.refuses("the keeper's before no room", x -> x.put(1, 1, 16), DENIED);
        full.refuses("no block before no quota", x -> x.put(1, 1, 0), NO_ROOM);
        Twins limited = new Twins(DUE, x -> {
            x.create(1, 0, 1, 0600);
            told(x, 1, 1, 37);
            x.limit(0, 1, 0, 0, 0);
            feed(x, 60);
        });
        limited.refuses("number before no quota", x -> x.put(1, 1, 32), BAD);
        limited.refuses("denied before no quota", x -> x.put(2, 1, 0), DENIED);
        limited.refuses("the keeper's before no quota", x -> x.put(1, 1, 31), DENIED);
        limited.refuses("no quota", x -> x.put(1, 1, 0), NO_QUOTA);
        Twins lying = new Twins(DUE, x -> {
            x.create(1, 0, 1, 0600);
            told(x, 1, 1, 37);
            told(x, 1, 2, 60);
            x.limit(0, 1, 0, 0, 0);
            feed(x, 60);
        });
        lying.refuses("denied before what would not lie", x -> x.put(2, 1, 0), DENIED);
        lying.refuses("what would not lie before no quota", x -> x.put(1, 1, 0), NO_ROOM);
    }

    private static void three(GuardedInodes x) {
        x.create(1, 0, 1, 0604);
        told(x, 1, 0, 5);
        told(x, 1, 15, 6);
        told(x, 1, 16, 0);
        told(x, 1, 31, 7);
        feed(x, 2);
    }

    private static void numbersOfTake() {
        Twins file = new Twins(DUE, AttributesEdgesTest::three);
        file.takes("the least", x -> x.take(1, 1, 0) * 10 + x.side(1, 0), 50 + MISSING);
        file.takes("the last of a user", x -> x.take(1, 1, 15), 6);
        file.takes("an empty one", x -> x.take(0, 1, 16), 0);
        file.takes("the last", x -> x.take(0, 1, 31), 7);
        file.takes("twice", x -> x.take(0, 1, 31) * 0 + x.take(0, 1, 31), MISSING);
        file.takes("the value stays", x -> x.take(1, 1, 0) * 0 + x.feed(1), 3);
        file.bad("number", (x, number) -> x.take(0, 1, number), -1, 32, 64, LEAST, MOST);
        file.bad("inode", (x, inode) -> x.take(0, inode, 0), -1, 2, 63, 64, 65, LEAST, MOST);
        file.bad("user", (x, user) -> x.take(user, 1, 0), -1, 16, LEAST, MOST);
        file.refuses("missing", x -> x.take(1, 1, 1), MISSING);
        file.refuses("missing for the keeper", x -> x.take(0, 1, 30), MISSING);
        file.refuses("missing of the root", x -> x.take(0, 0, 0), MISSING);
        LAST.takes("the last inode", x -> x.put(1, 63, 0) + x.take(1, 63, 0) + x.side(63, 0), MISSING);
    }

    private static void whoMayTake() {
        for (int bits = 0; bits < 8; bits++) {
            int has = bits;
            Twins file = new Twins(DUE, x -> {
                three(x);
                x.chmod(1, 1, has * 64 + 7 - has);
            });
            file.answers("its owner with " + bits, x -> x.take(1, 1, 15), (bits & 2) != 0 ? 6 : DENIED);
            file.answers("another with " + (7 - bits), x -> x.take(2, 1, 15), (bits & 2) == 0 ? 6 : DENIED);
            file.takes("the keeper", x -> x.take(0, 1, 15), 6);
        }
        Twins open = new Twins(DUE, x -> {
            three(x);
            x.chmod(1, 1, 0777);
        });
        open.refuses("its owner, 16", x -> x.take(1, 1, 16), DENIED);
        open.refuses("its owner, 31", x -> x.take(1, 1, 31), DENIED);
        open.refuses("another, 31", x -> x.take(2, 1, 31), DENIED);
    }

    private static void takeRefusalsInOrder() {
        Twins file = new Twins(DUE, AttributesEdgesTest::three);
        file.refuses("number before denied", x -> x.take(2, 1, 32), BAD);
        file.refuses("inode before missing", x -> x.take(1, 64, 1), BAD);
        file.refuses("denied before missing", x -> x.take(2, 1, 1), DENIED);
        file.refuses("the keeper's before missing", x -> x.take(1, 1, 17), DENIED);
    }

    /** What moves into the tail is longer than all that it pushes out, so the others always lie. */
    private static void takeNeverLacksRoom() {
        int[] lengths = {0, 1, 5, 12, 18, 25, 31, 34, 37};
        int all = lengths.length * lengths.length * lengths.length * lengths.length;
        for (int layout = 0; layout < all; layout++) {
            for (int gone = 0; gone < 4; gone++) {
                GuardedInodes x = new GuardedInodes();
                x.create(1, 0, 1, 0600);
                int length = NONE;
                for (int number = 0, rest = layout; number < 4; number++, rest /= lengths.length) {
                    int put = told(x, 1, number, lengths[rest % lengths.length]);
                    if (put < 0) {
                        x.put(0, 0, 0);
                    } else if (number == gone) {
                        length = put;
                    }
                }
                if (length >= 0) {
                    DUE.is("layout " + layout + " without " + gone, x.take(1, 1, gone), length);
                }
            }
        }
    }

    private static void takeGivesTheSideBlockBack() {
        Twins file = new Twins(DUE, x -> {
            x.create(1, 0, 1, 0600);
            told(x, 1, 1, 20);
            told(x, 1, 2, 20);
            told(x, 1, 3, 20);
            x.limit(0, 1, 0, 0, NONE);
        });
        file.takes("one is in the tail", x -> x.side(1, 1) * 100 + x.side(1, 2) * 10 + x.side(1, 3), 11);
        file.takes("the tail's is taken", x -> x.take(1, 1, 1) * 0 + x.side(1, 2) * 10 + x.side(1, 3), 1);
        file.takes("the side block stays", x -> x.take(1, 1, 1) * 0 + x.inode(1, 8), 0);
        file.takes("both are taken", x -> x.take(1, 1, 1) * 0 + x.take(1, 1, 2) * 0 + x.side(1, 3), 0);
        file.takes("the side block goes", x -> x.take(1, 1, 1) * 0 + x.take(1, 1, 2) * 0 + x.inode(1, 8), NONE);
        file.takes("blocks", x -> x.take(1, 1, 3) * 0 + x.take(1, 1, 2) * 0 + x.count(1) * 10 + x.inode(1, 7), 2560);
        file.takes("charged", x -> x.take(1, 1, 3) * 0 + x.take(1, 1, 2) * 0 + x.charged(0, 1, 0) + x.charged(1, 1, 0), 0);
        file.takes("time runs at first", x -> x.take(1, 1, 3) * 0 + x.charged(0, 1, 2), 0);
        file.takes("no time", x -> x.take(1, 1, 3) * 0 + x.take(1, 1, 2) * 0 + x.charged(0, 1, 2), NONE);
        file.takes("the last", x -> x.take(1, 1, 3) * 0 + x.take(1, 1, 2) * 0 + x.take(1, 1, 1), 20);
    }

    private static void bytesOfAnAttribute() {
        Twins file = new Twins(DUE, x -> {
            three(x);
            x.chmod(1, 1, 0400);
        });
        file.takes("how long", x -> x.attribute(1, 1, 0, NONE), 5);
        file.takes("the first byte", x -> x.attribute(1, 1, 0, 0), 200);
        file.takes("the last byte", x -> x.attribute(1, 1, 0, 4), 204);
        for (int k : new int[] {5, 6, 59, 60, 255, MOST}) {
            file.takes("none such: " + k, x -> x.attribute(1, 1, 0, k), NONE);
        }
        file.takes("an empty one: how long", x -> x.attribute(0, 1, 16, NONE), 0);
        file.takes("an empty one: byte 0", x -> x.attribute(0, 1, 16, 0), NONE);
        file.bad("k", (x, k) -> x.attribute(1, 1, 0, k), -2, -3, LEAST);
        Twins longest = new Twins(DUE, x -> {
            for (int i = 0; i < 60; i++) {
                x.feed(255 - i);
            }
            x.put(0, 0, 0);
        });
        longest.takes("how long", x -> x.attribute(0, 0, 0, NONE), 60);
        longest.takes("the first byte", x -> x.attribute(0, 0, 0, 0), 255);
        longest.takes("the last byte", x -> x.attribute(0, 0, 0, 59), 196);
        longest.takes("behind the last", x -> x.attribute(0, 0, 0, 60), NONE);
    }

    private static void numbersOfAttribute() {
        Twins file = new Twins(DUE, AttributesEdgesTest::three);
        file.takes("the least", x -> x.attribute(0, 1, 0, NONE), 5);
        file.takes("the last", x -> x.attribute(0, 1, 31, NONE), 7);
        file.takes("the last user", x -> x.attribute(15, 1, 15, NONE), 6);
        LAST.takes("the last inode", x -> x.put(1, 63, 0) + x.attribute(1, 63, 0, NONE), 0);
        file.bad("number", (x, number) -> x.attribute(0, 1, number, NONE), -1, 32, 64, LEAST, MOST);
        file.bad("inode", (x, inode) -> x.attribute(0, inode, 0, NONE), -1, 2, 63, 64, 65, LEAST, MOST);
        file.bad("user", (x, user) -> x.attribute(user, 1, 0, NONE), -1, 16, LEAST, MOST);
        file.refuses("missing", x -> x.attribute(1, 1, 1, NONE), MISSING);
        file.refuses("missing, of a byte", x -> x.attribute(1, 1, 1, 0), MISSING);
        file.refuses("missing, of a byte that none has", x -> x.attribute(1, 1, 1, MOST), MISSING);
        file.refuses("missing of the root", x -> x.attribute(0, 0, 31, NONE), MISSING);
    }

    private static void whoMayReadAttributes() {
        for (int bits = 0; bits < 8; bits++) {
            int has = bits;
            Twins file = new Twins(DUE, x -> {
                three(x);
                x.chmod(1, 1, has * 64 + 7 - has);
            });
            file.answers("its owner with " + bits, x -> x.attribute(1, 1, 15, 0), (bits & 4) != 0 ? 200 : DENIED);
            file.answers("another with " + (7 - bits), x -> x.attribute(2, 1, 15, 0), (bits & 4) == 0 ? 200 : DENIED);
            file.takes("the keeper", x -> x.attribute(0, 1, 15, 0), 200);
            file.refuses("its owner, 16", x -> x.attribute(1, 1, 16, NONE), DENIED);
            file.refuses("another, 31", x -> x.attribute(2, 1, 31, 0), DENIED);
            file.takes("the keeper, 31", x -> x.attribute(0, 1, 31, 0), 200);
        }
        Twins closed = new Twins(DUE, x -> {
            three(x);
            x.chmod(1, 1, 0);
        });
        closed.refuses("number before denied", x -> x.attribute(1, 1, 32, 0), BAD);
        closed.refuses("k before denied", x -> x.attribute(1, 1, 0, -2), BAD);
        closed.refuses("k before the keeper's", x -> x.attribute(1, 1, 31, -2), BAD);
        closed.refuses("k before missing", x -> x.attribute(0, 1, 1, -2), BAD);
        closed.refuses("denied before missing", x -> x.attribute(1, 1, 1, 0), DENIED);
        closed.refuses("the keeper's before missing", x -> x.attribute(1, 1, 17, 0), DENIED);
    }

    private static void numbersOfSide() {
        Twins file = new Twins(DUE, x -> {
            x.create(1, 0, 1, 0);
            told(x, 1, 0, 0);
            told(x, 1, 31, 38);
        });
        file.takes("the least", x -> x.side(1, 0), 0);
        file.takes("the last", x -> x.side(1, 31), 1);
        LAST.takes("the last inode", x -> x.put(1, 63, 0) + x.side(63, 0), 0);
        file.refuses("missing", x -> x.side(1, 1), MISSING);
        file.refuses("missing", x -> x.side(1, 30), MISSING);
        file.refuses("missing of the root", x -> x.side(0, 0), MISSING);
        file.bad("number", (x, number) -> x.side(1, number), -1, 32, 63, 64, LEAST, MOST);
        file.bad("inode", (x, inode) -> x.side(inode, 0), -1, 2, 63, 64, 65, LEAST, MOST);
        file.bad("inode before missing:", (x, inode) -> x.side(inode, 1), -1, 64);
    }
}
