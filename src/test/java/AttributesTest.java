/** Promises 16 to 20: feed, put, take, attribute, side. */
public final class AttributesTest {
    private static final int NONE = GuardedInodes.NONE, BAD = GuardedInodes.BAD, DENIED = GuardedInodes.DENIED;
    private static final int NO_ROOM = GuardedInodes.NO_ROOM, NO_QUOTA = GuardedInodes.NO_QUOTA;
    private static final int MISSING = GuardedInodes.MISSING;
    private static final Due DUE = new Due();

    public static void main(String[] args) {
        promise16();
        promise17();
        promise17Refusals();
        promise17NoRoom();
        promise17Quota();
        promise17Root();
        promise18();
        promise18Others();
        promise19();
        promise20();
        DUE.end();
    }

    private static void fill(GuardedInodes x, int length) {
        for (int i = 0; i < length; i++) {
            x.feed(i);
        }
    }

    private static int told(GuardedInodes x, int inode, int attribute, int length) {
        fill(x, length);
        return x.put(0, inode, attribute);
    }

    private static void promise16() {
        GuardedInodes x = new GuardedInodes();
        for (int b : new int[] {-1, 256, Integer.MIN_VALUE, Integer.MAX_VALUE}) {
            DUE.is("feed(" + b + ")", x.feed(b), BAD);
        }
        for (int i = 1; i <= 60; i++) {
            DUE.is("feed(255)", x.feed(255), i);
        }
        DUE.is("a byte too many", x.feed(0), NO_ROOM);
        DUE.is("bad before no room", x.feed(256), BAD);
        DUE.is("put", x.put(0, 0, 0), 60);
        DUE.is("its last byte", x.attribute(0, 0, 0, 59), 255);
        DUE.is("empty then", x.feed(0), 1);
    }

    private static void promise17() {
        GuardedInodes x = new GuardedInodes();
        x.create(1, 0, 1, 0600);
        fill(x, 3);
        DUE.is("put", x.put(1, 1, 15), 3);
        DUE.is("byte", x.attribute(1, 1, 15, 2), 2);
        DUE.is("an empty one, which the value is then", x.put(1, 1, 15), 0);
        DUE.is("its length", x.attribute(1, 1, 15, NONE), 0);
        x.feed(200);
        DUE.is("another", x.put(1, 1, 15), 1);
        DUE.is("byte", x.attribute(1, 1, 15, 0), 200);
        x.feed(7);
        DUE.is("the value is not the attribute", x.attribute(1, 1, 15, 0), 200);
        DUE.is("the keeper's own", x.put(0, 1, 31), 1);
        DUE.is("of a folder", x.put(0, 0, 0), 0);
        DUE.is("the tail holds 40", told(x, 1, 0, 33 - 4), 29);
        DUE.is("no side block", x.inode(1, 8), NONE);
        DUE.is("no longer", told(x, 1, 0, 30), 30);
        DUE.is("a side block", x.inode(1, 8), 0);
        DUE.is("it is among the blocks", x.inode(1, 7), 1);
        DUE.is("charged to the user", x.charged(0, 1, 0), 1);
        DUE.is("charged to the group", x.charged(1, 1, 0), 1);
        DUE.is("not used", x.count(1), 255);
        DUE.is("shorter again", told(x, 1, 0, 1), 1);
        DUE.is("no side block", x.inode(1, 8), NONE);
        DUE.is("not charged", x.charged(0, 1, 0) + x.charged(1, 1, 0), 0);
        DUE.is("not used", x.count(1), 256);
    }

    private static void promise17Refusals() {
        GuardedInodes x = new GuardedInodes();
        x.create(1, 0, 1, 0604);
        x.feed(9);
        for (int attribute : new int[] {-1, 32, Integer.MIN_VALUE, Integer.MAX_VALUE}) {
            DUE.is("number " + attribute, x.put(0, 1, attribute), BAD);
        }
        for (int inode : new int[] {-1, 2, 64}) {
            DUE.is("inode " + inode, x.put(0, inode, 0), BAD);
        }
        for (int user : new int[] {-1, 16}) {
            DUE.is("user " + user, x.put(user, 1, 0), BAD);
        }
        DUE.is("from 16 on, its owner", x.put(1, 1, 16), DENIED);
        DUE.is("from 16 on, its owner", x.put(1, 1, 31), DENIED);
        DUE.is("may not write", x.put(2, 1, 15), DENIED);
        DUE.is("bad before denied", x.put(2, 1, 32), BAD);
        DUE.is("the value stays", x.feed(8), 2);
        DUE.is("nothing is done", x.side(1, 15), MISSING);
        DUE.is("the keeper", x.put(0, 1, 16), 2);
    }

    private static void promise17NoRoom() {
        GuardedInodes x = new GuardedInodes();
        x.create(1, 0, 1, 0600);
        DUE.is("in the tail", told(x, 1, 5, 37), 37);
        DUE.is("in the side block", told(x, 1, 6, 58), 58);
        DUE.is("3 bytes are left, an empty one lies there", told(x, 1, 7, 0), 0);
        DUE.is("nowhere", told(x, 1, 8, 0), NO_ROOM);
        DUE.is("nowhere, for a lower one as well", told(x, 1, 0, 0), NO_ROOM);
        DUE.is("nothing is done", x.side(1, 0), MISSING);
        x.feed(1);
        DUE.is("one is too long then", x.put(0, 1, 7), NO_ROOM);
        DUE.is("it stays as it was", x.attribute(0, 1, 7, NONE), 0);
        DUE.is("the value stays", x.feed(2), 2);
        x.limit(0, 1, 0, NONE, 0);
        DUE.is("room before the quota", x.put(1, 1, 8), NO_ROOM);

        GuardedInodes full = new GuardedInodes();
        for (int i = 0; i < 22; i++) {
            full.create(1, 0, 1, 0600);
        }
        for (int part = 0; part < 256; part++) {
            full.write(1, 1 + part / 12, part % 12 * 64, 1, 1);
        }
        fill(full, 37);
        DUE.is("the tail needs no block", full.put(1, 1, 0), 37);
        full.limit(0, 1, 0, NONE, 0);
        DUE.is("a block lacks, before the quota", full.put(1, 1, 1), NO_ROOM);
        full.resize(1, 5, 704);
        DUE.is("the quota", full.put(1, 1, 1), NO_QUOTA);
        full.limit(0, 1, 0, NONE, NONE);
        DUE.is("a block is there", full.put(1, 1, 1), 0);
        DUE.is("which", full.inode(1, 8), 59);
        DUE.is("another needs no other", full.put(1, 1, 2), 0);
        DUE.is("none is left", full.count(1), 0);
    }

    private static void promise17Quota() {
        GuardedInodes x = new GuardedInodes();
        x.create(1, 0, 1, 0602);
        x.limit(1, 1, 0, NONE, 0);
        fill(x, 38);
        DUE.is("the group's hard limit", x.put(2, 1, 0), NO_QUOTA);
        DUE.is("nothing is done", x.side(1, 0), MISSING);
        DUE.is("the value stays", x.feed(0), 39);
        x.limit(1, 1, 0, NONE, 1);
        x.limit(0, 2, 0, NONE, 0);
        DUE.is("the owner's limits count", x.put(2, 1, 0), 39);
        x.limit(1, 1, 0, NONE, 0);
        fill(x, 40);
        DUE.is("what has its side block is not charged", x.put(2, 1, 0), 40);
        DUE.is("taken", x.take(2, 1, 0), 40);
        fill(x, 38);
        DUE.is("the keeper", x.put(0, 1, 0), 38);
        DUE.is("charged", x.charged(1, 1, 0), 1);
    }

    private static void promise17Root() {
        GuardedInodes x = new GuardedInodes();
        x.limit(0, 0, 0, NONE, 0);
        x.limit(1, 0, 0, NONE, 0);
        fill(x, 60);
        DUE.is("the root's side block", x.put(5, 0, 3), 60);
        DUE.is("it is a block", x.inode(0, 7), 1);
        DUE.is("its number", x.inode(0, 8), 0);
        DUE.is("not charged to the user", x.charged(0, 0, 0), 0);
        DUE.is("not charged to the group", x.charged(1, 0, 0), 0);
        DUE.is("taken", x.take(5, 0, 3), 60);
        DUE.is("not charged", x.charged(0, 0, 0), 0);
        DUE.is("not used", x.count(1), 256);
    }

    private static void promise18() {
        GuardedInodes x = new GuardedInodes();
        x.create(1, 0, 1, 0604);
        told(x, 1, 3, 4);
        told(x, 1, 20, 5);
        for (int attribute : new int[] {-1, 32, Integer.MIN_VALUE, Integer.MAX_VALUE}) {
            DUE.is("number " + attribute, x.take(0, 1, attribute), BAD);
        }
        for (int inode : new int[] {-1, 2, 64}) {
            DUE.is("inode " + inode, x.take(0, inode, 3), BAD);
        }
        for (int user : new int[] {-1, 16}) {
            DUE.is("user " + user, x.take(user, 1, 3), BAD);
        }
        DUE.is("may not write", x.take(2, 1, 3), DENIED);
        DUE.is("denied before missing", x.take(2, 1, 4), DENIED);
        DUE.is("from 16 on, its owner", x.take(1, 1, 20), DENIED);
        DUE.is("from 16 on, missing", x.take(1, 1, 21), DENIED);
        DUE.is("missing", x.take(1, 1, 4), MISSING);
        x.feed(1);
        DUE.is("its owner", x.take(1, 1, 3), 4);
        DUE.is("gone", x.take(1, 1, 3), MISSING);
        DUE.is("the keeper", x.take(0, 1, 20), 5);
        DUE.is("the value stays", x.feed(1), 2);
        DUE.is("in the side block", told(x, 1, 0, 50), 52);
        DUE.is("charged", x.charged(1, 1, 0), 1);
        DUE.is("take", x.take(1, 1, 0), 52);
        DUE.is("no side block", x.inode(1, 8), NONE);
        DUE.is("not charged", x.charged(0, 1, 0) + x.charged(1, 1, 0), 0);
        DUE.is("not used", x.count(1), 256);
    }

    private static void promise18Others() {
        GuardedInodes x = new GuardedInodes();
        x.create(1, 0, 1, 0600);
        told(x, 1, 0, 7);
        told(x, 1, 1, 28);
        told(x, 1, 2, 27);
        told(x, 1, 3, 30);
        sides(x, new int[] {0, 1, 0, 1});
        // Without 0 (10 bytes) 1 (31) lies in the tail, and 2 (30) with 3 (33) in the side block.
        DUE.is("the others move, and lie", x.take(1, 1, 0), 7);
        sides(x, new int[] {MISSING, 0, 1, 1});
        DUE.is("one of the side block", x.take(1, 1, 3), 30);
        sides(x, new int[] {MISSING, 0, 1, MISSING});
        DUE.is("what fills the tail", x.take(1, 1, 1), 28);
        sides(x, new int[] {MISSING, MISSING, 0, MISSING});
        DUE.is("no side block", x.inode(1, 8), NONE);
        DUE.is("not charged", x.charged(0, 1, 0), 0);
    }

    private static void sides(GuardedInodes x, int[] due) {
        for (int attribute = 0; attribute < due.length; attribute++) {
            DUE.is("side(1, " + attribute + ")", x.side(1, attribute), due[attribute]);
        }
    }

    private static void promise19() {
        GuardedInodes x = new GuardedInodes();
        x.create(1, 0, 1, 0620);
        x.feed(255);
        x.feed(128);
        x.put(1, 1, 2);
        x.feed(3);
        x.put(0, 1, 16);
        DUE.is("length", x.attribute(1, 1, 2, NONE), 2);
        DUE.is("byte 0", x.attribute(1, 1, 2, 0), 255);
        DUE.is("byte 1", x.attribute(1, 1, 2, 1), 128);
        DUE.is("byte 2", x.attribute(1, 1, 2, 2), NONE);
        DUE.is("a byte far behind", x.attribute(1, 1, 2, Integer.MAX_VALUE), NONE);
        DUE.is("the keeper's own", x.attribute(0, 1, 16, 0), 3);
        DUE.is("not for its owner", x.attribute(1, 1, 16, 0), DENIED);
        x.member(3, 1, true);
        DUE.is("may write, not read", x.attribute(3, 1, 2, 0), DENIED);
        DUE.is("denied before missing", x.attribute(3, 1, 4, 0), DENIED);
        DUE.is("missing", x.attribute(1, 1, 4, 0), MISSING);
        DUE.is("missing, of a byte that none has", x.attribute(1, 1, 4, 99), MISSING);
        DUE.is("missing for the keeper", x.attribute(0, 1, 17, NONE), MISSING);
        for (int k : new int[] {-2, Integer.MIN_VALUE}) {
            DUE.is("k = " + k, x.attribute(1, 1, 2, k), BAD);
            DUE.is("bad before denied", x.attribute(3, 1, 2, k), BAD);
        }
        for (int attribute : new int[] {-1, 32}) {
            DUE.is("number " + attribute, x.attribute(0, 1, attribute, 0), BAD);
        }
        for (int inode : new int[] {-1, 2, 64}) {
            DUE.is("inode " + inode, x.attribute(0, inode, 2, 0), BAD);
        }
        for (int user : new int[] {-1, 16}) {
            DUE.is("user " + user, x.attribute(user, 1, 2, 0), BAD);
        }
    }

    private static void promise20() {
        GuardedInodes x = new GuardedInodes();
        x.create(1, 0, 1, 0);
        told(x, 1, 8, 37);
        told(x, 1, 31, 0);
        DUE.is("in the tail, all of it", x.side(1, 8), 0);
        DUE.is("beside", x.side(1, 31), 1);
        told(x, 1, 4, 10);
        DUE.is("a lower one goes before", x.side(1, 4), 0);
        DUE.is("which is beside then", x.side(1, 8), 1);
        DUE.is("a later one has room in the tail", x.side(1, 31), 0);
        DUE.is("missing", x.side(1, 5), MISSING);
        DUE.is("missing of the root", x.side(0, 0), MISSING);
        for (int attribute : new int[] {-1, 32, Integer.MIN_VALUE, Integer.MAX_VALUE}) {
            DUE.is("number " + attribute, x.side(1, attribute), BAD);
        }
        for (int inode : new int[] {-1, 2, 64}) {
            DUE.is("inode " + inode, x.side(inode, 8), BAD);
        }
    }
}
