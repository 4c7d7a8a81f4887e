/** The boundary cases of promises 21 to 25: limit, grace, charged, inode, count. */
public final class QuotasEdgesTest {
    private static final int NONE = GuardedInodes.NONE, BAD = GuardedInodes.BAD, NO_QUOTA = GuardedInodes.NO_QUOTA;
    private static final int LEAST = Integer.MIN_VALUE, MOST = Integer.MAX_VALUE;
    private static final int BLOCKS = 0, INODES = 1;
    private static final Due DUE = new Due();
    /** 1 to 3 are files of user 1 with a block each. */
    private static final Twins THREE = new Twins(DUE, QuotasEdgesTest::three);

    public static void main(String[] args) {
        namesOfLimits();
        valuesOfLimits();
        badLimitsLeaveThemAsTheyWere();
        limitsAreOfOne();
        theHighestLimits();
        hardLimits();
        aHardLimitUnderWhatIsCharged();
        softLimitsAndTheirTime();
        timeIsOverWhenNowHasComeToIt();
        noTimeWhenItIsNotMore();
        softLimitsToldAnew();
        softAboveHard();
        keeperIsNotRefused();
        keepersOwnAreLimitedForOthers();
        namesOfGraces();
        minutesOfGraces();
        graceAsItIsThen();
        aTimeThatNeverComes();
        namesOfCharged();
        theRootIsNotCharged();
        fieldsOfInodes();
        numbersOfInodes();
        countsOfNothingAndAll();
        whatsOfCount();
        DUE.end();
    }

    private static void three(GuardedInodes x) {
        for (int file = 1; file <= 3; file++) {
            x.create(1, 0, 1, 0602);
            x.write(1, file, 0, 1, 1);
        }
    }

    /** User 1 gets one more, a block or an inode. */
    private static int more(GuardedInodes x, int what) {
        if (what == INODES) {
            return x.create(1, 0, 1, 0600) > 0 ? 0 : NO_QUOTA;
        }
        for (int part = 1; part < 12; part++) {
            if (x.inode(1, 9 + part) == NONE) {
                return x.write(1, 1, part * 64, 1, 1) > 0 ? 0 : NO_QUOTA;
            }
        }
        return BAD;
    }

    private static int fewer(GuardedInodes x, int what) {
        return what == INODES ? x.remove(1, 3) : x.resize(1, 3, 0) * 0;
    }

    private static void namesOfLimits() {
        for (int kind = 0; kind < 2; kind++) {
            for (int id : new int[] {0, 15}) {
                for (int what = 0; what < 2; what++) {
                    int ofKind = kind;
                    int of = what;
                    THREE.takes("limit of " + kind + ", " + id + ", " + what, x -> x.limit(ofKind, id, of, 5, 5), 0);
                }
            }
        }
        THREE.bad("kind", (x, kind) -> x.limit(kind, 1, 0, 0, 0), -1, 2, LEAST, MOST);
        THREE.bad("user", (x, id) -> x.limit(0, id, 0, 0, 0), -1, 16, LEAST, MOST);
        THREE.bad("group", (x, id) -> x.limit(1, id, 1, 0, 0), -1, 16, 32, LEAST, MOST);
        THREE.bad("what", (x, what) -> x.limit(0, 1, what, 0, 0), -1, 2, 3, LEAST, MOST);
    }

    private static void valuesOfLimits() {
        for (int value : new int[] {NONE, 0, 1, 999, 1000}) {
            THREE.takes("soft " + value, x -> x.limit(0, 1, 0, value, NONE), 0);
            THREE.takes("hard " + value, x -> x.limit(1, 1, 1, NONE, value), 0);
        }
        THREE.bad("soft", (x, soft) -> x.limit(0, 1, 0, soft, 5), -2, 1001, LEAST, MOST);
        THREE.bad("hard", (x, hard) -> x.limit(0, 1, 0, 0, hard), -2, 1001, LEAST, MOST);
        THREE.bad("both", (x, both) -> x.limit(1, 1, 1, both, both), -2, 1001, LEAST, MOST);
    }

    private static void badLimitsLeaveThemAsTheyWere() {
        for (int i = 0; i < 4; i++) {
            int kind = i / 2;
            int what = i % 2;
            Twins limited = new Twins(DUE, x -> {
                three(x);
                x.limit(kind, 1, what, 2, 4);
                x.grace(kind, what, 10);
                x.limit(kind, 1, what, 3, 4);
            });
            limited.takes("at the hard limit", x -> x.limit(kind, 1, what, 1001, NONE) * 0 + more(x, what), 0);
            limited.takes("beyond the hard limit", x -> x.limit(kind, 1, what, -2, NONE) * 0 + more(x, what) + more(x, what), NO_QUOTA);
            limited.takes("beyond the hard limit", x -> x.limit(kind, 1, what, NONE, 1001) * 0 + more(x, what) + more(x, what), NO_QUOTA);
            limited.takes("the soft limit", x -> x.limit(kind, 1, what, 9, -2) * 0 + more(x, what) + x.charged(kind, 1, 2 + what), 10);
            limited.takes("no time comes", x -> x.limit(kind, 1, what, 0, 1001) * 0 + x.charged(kind, 1, 2 + what), NONE);
        }
    }

    private static void limitsAreOfOne() {
        for (int i = 0; i < 4; i++) {
            int kind = i / 2;
            int what = i % 2;
            for (int j = 0; j < 4; j++) {
                int otherKind = j / 2;
                int otherWhat = j % 2;
                Twins limited = new Twins(DUE, x -> {
                    three(x);
                    x.limit(kind, 1, what, NONE, 3);
                });
                limited.takes("limit " + i + ", act " + otherWhat, x -> more(x, otherWhat), what == otherWhat ? NO_QUOTA : 0);
                limited.takes("of another", x -> x.limit(kind, 1, what, NONE, NONE) + x.limit(otherKind, 2, otherWhat, 0, 0) + more(x, what), 0);
            }
        }
    }

    private static void theHighestLimits() {
        Twins limited = new Twins(DUE, x -> {
            x.limit(0, 1, INODES, 1000, 1000);
            x.limit(1, 1, INODES, 1000, 1000);
        });
        limited.takes("all inodes", x -> {
            int last = 0;
            for (int made = 1; made <= 63; made++) {
                last = x.create(1, 0, 1, 0);
            }
            return last;
        }, 63);
    }

    private static void hardLimits() {
        for (int i = 0; i < 4; i++) {
            int kind = i / 2;
            int what = i % 2;
            for (int hard = 0; hard <= 5; hard++) {
                int limit = hard;
                Twins limited = new Twins(DUE, x -> {
                    three(x);
                    x.limit(kind, 1, what, NONE, limit);
                });
                limited.answers("a fourth of " + hard, x -> more(x, what), hard >= 4 ? 0 : NO_QUOTA);
                limited.takes("no time", x -> more(x, what) * 0 + x.charged(kind, 1, 2 + what), NONE);
                limited.takes("a fourth without the limit", x -> x.limit(kind, 1, what, NONE, NONE) + more(x, what), 0);
            }
        }
    }

    private static void aHardLimitUnderWhatIsCharged() {
        for (int i = 0; i < 4; i++) {
            int kind = i / 2;
            int what = i % 2;
            Twins limited = new Twins(DUE, x -> {
                three(x);
                x.limit(kind, 1, what, NONE, 1);
            });
            limited.takes("what is there stays", x -> x.charged(kind, 1, what), 3);
            limited.takes("fewer", x -> fewer(x, what), 0);
            limited.takes("fewer, and one more", x -> fewer(x, what) + more(x, what), NO_QUOTA);
        }
    }

    private static void softLimitsAndTheirTime() {
        for (int i = 0; i < 4; i++) {
            int kind = i / 2;
            int what = i % 2;
            for (int soft = 0; soft <= 5; soft++) {
                int limit = soft;
                Twins limited = new Twins(DUE, x -> {
                    three(x);
                    x.tick(100);
                    x.grace(kind, what, 20);
                    x.limit(kind, 1, what, limit, NONE);
                    x.tick(1);
                });
                limited.takes("three, soft " + soft, x -> x.charged(kind, 1, 2 + what), soft < 3 ? 120 : NONE);
                limited.takes("a fourth, soft " + soft, x -> more(x, what) + x.charged(kind, 1, 2 + what), soft < 3 ? 120 : soft < 4 ? 121 : NONE);
                limited.takes("the other kind has no time", x -> more(x, what) + x.charged(1 - kind, 1, 2 + what), NONE);
                limited.takes("the other what has no time", x -> more(x, what) + x.charged(kind, 1, 3 - what), NONE);
            }
        }
    }

    private static void timeIsOverWhenNowHasComeToIt() {
        for (int i = 0; i < 4; i++) {
            int kind = i / 2;
            int what = i % 2;
            for (int later = 8; later <= 12; later++) {
                int minutes = later;
                Twins over = new Twins(DUE, x -> {
                    three(x);
                    x.grace(kind, what, 10);
                    x.limit(kind, 1, what, 2, NONE);
                    x.tick(minutes);
                });
                over.answers("after " + later + " of 10 minutes", x -> more(x, what), later < 10 ? 0 : NO_QUOTA);
                over.takes("time stays after " + later, x -> more(x, what) * 0 + x.charged(kind, 1, 2 + what), 10);
                over.takes("with no soft limit after " + later, x -> x.limit(kind, 1, what, NONE, NONE) + more(x, what), 0);
            }
            Twins atOnce = new Twins(DUE, x -> {
                three(x);
                x.limit(kind, 1, what, 3, NONE);
            });
            atOnce.takes("grace 0: the first that is over", x -> more(x, what), 0);
            atOnce.takes("grace 0: the second", x -> more(x, what) + more(x, what), NO_QUOTA);
            atOnce.takes("grace 0: the time", x -> more(x, what) + x.charged(kind, 1, 2 + what), 0);
        }
    }

    private static void noTimeWhenItIsNotMore() {
        for (int i = 0; i < 4; i++) {
            int kind = i / 2;
            int what = i % 2;
            for (int soft = 0; soft <= 2; soft++) {
                int limit = soft;
                Twins over = new Twins(DUE, x -> {
                    three(x);
                    x.grace(kind, what, 5);
                    x.limit(kind, 1, what, limit, NONE);
                    x.tick(7);
                });
                over.takes("one fewer, soft " + soft, x -> fewer(x, what) + x.charged(kind, 1, 2 + what), soft < 2 ? 5 : NONE);
                over.takes("then one more, soft " + soft, x -> fewer(x, what) + more(x, what), soft < 2 ? NO_QUOTA : 0);
                over.takes("time anew, soft " + soft, x -> fewer(x, what) + more(x, what) * 0 + x.charged(kind, 1, 2 + what), soft < 2 ? 5 : 12);
            }
        }
    }

    private static void softLimitsToldAnew() {
        for (int i = 0; i < 4; i++) {
            int kind = i / 2;
            int what = i % 2;
            Twins over = new Twins(DUE, x -> {
                three(x);
                x.grace(kind, what, 5);
                x.limit(kind, 1, what, 2, NONE);
                x.tick(7);
            });
            over.takes("the same keeps its time", x -> x.limit(kind, 1, what, 2, NONE) + x.charged(kind, 1, 2 + what), 5);
            over.takes("a lower one keeps its time", x -> x.limit(kind, 1, what, 0, NONE) + x.charged(kind, 1, 2 + what), 5);
            over.takes("a hard one keeps its time", x -> x.limit(kind, 1, what, 2, 9) + x.charged(kind, 1, 2 + what), 5);
            over.takes("as many as there are: none", x -> x.limit(kind, 1, what, 3, NONE) + x.charged(kind, 1, 2 + what), NONE);
            over.takes("no limit: none", x -> x.limit(kind, 1, what, NONE, NONE) + x.charged(kind, 1, 2 + what), NONE);
            over.takes("none, and then anew", x -> x.limit(kind, 1, what, NONE, NONE) + x.limit(kind, 1, what, 2, NONE) + x.charged(kind, 1, 2 + what), 12);
            over.takes("a refused one keeps its time", x -> x.limit(kind, 1, what, NONE, 1001) * 0 + x.charged(kind, 1, 2 + what), 5);
            Twins none = new Twins(DUE, x -> {
                three(x);
                x.grace(kind, what, 5);
                x.tick(7);
            });
            none.takes("at the limit: none", x -> x.limit(kind, 1, what, 3, NONE) + x.charged(kind, 1, 2 + what), NONE);
            none.takes("over at once", x -> x.limit(kind, 1, what, 2, NONE) + x.charged(kind, 1, 2 + what), 12);
            none.takes("the least limit, of what has something", x -> x.limit(kind, 1, what, 0, NONE) + x.charged(kind, 1, 2 + what), 12);
            none.takes("the least limit, of what has nothing", x -> x.limit(kind, 9, what, 0, NONE) + x.charged(kind, 9, 2 + what), NONE);
        }
    }

    private static void softAboveHard() {
        for (int i = 0; i < 4; i++) {
            int kind = i / 2;
            int what = i % 2;
            Twins limited = new Twins(DUE, x -> {
                three(x);
                x.limit(kind, 1, what, 1000, 4);
            });
            limited.takes("up to the hard one", x -> more(x, what), 0);
            limited.takes("not further", x -> more(x, what) + more(x, what), NO_QUOTA);
        }
    }

    private static void keeperIsNotRefused() {
        Twins limited = new Twins(DUE, x -> {
            three(x);
            x.create(0, 0, 1, 0600);
            for (int what = 0; what < 2; what++) {
                for (int id = 0; id < 2; id++) {
                    x.limit(0, id, what, 0, 0);
                    x.limit(1, id, what, 0, 0);
                }
            }
        });
        limited.takes("create", x -> x.create(0, 0, 1, 0), 5);
        limited.takes("write to its own", x -> x.write(0, 4, 60, 8, 1), 68);
        limited.takes("write to another's", x -> x.write(0, 1, 700, 8, 1), 708);
        limited.takes("chown", x -> x.chown(0, 4, 1, 1), 0);
        limited.takes("chown to itself", x -> x.chown(0, 1, 0, 0), 0);
        limited.takes("it is charged", x -> x.create(0, 0, 1, 0) * 0 + x.charged(0, 0, INODES) * 10 + x.charged(1, 0, INODES), 22);
        limited.refuses("another, of blocks", x -> more(x, BLOCKS), NO_QUOTA);
        limited.refuses("another, of inodes", x -> more(x, INODES), NO_QUOTA);
    }

    private static void keepersOwnAreLimitedForOthers() {
        Twins limited = new Twins(DUE, x -> {
            x.create(0, 0, 1, 0602);
            x.limit(0, 0, BLOCKS, NONE, 0);
        });
        limited.refuses("another's act on the keeper's file", x -> x.write(1, 1, 0, 1, 1), NO_QUOTA);
        limited.takes("the keeper's own act", x -> x.write(0, 1, 0, 1, 1), 1);
    }

    private static void namesOfGraces() {
        for (int i = 0; i < 4; i++) {
            int kind = i / 2;
            int what = i % 2;
            for (int j = 0; j < 4; j++) {
                int otherKind = j / 2;
                int otherWhat = j % 2;
                THREE.takes("grace " + i + " beside " + j, x -> x.grace(kind, what, 7) + x.grace(otherKind, otherWhat, 1), i == j ? 7 : 0);
            }
        }
        THREE.bad("kind", (x, kind) -> x.grace(kind, 0, 5), -1, 2, LEAST, MOST);
        THREE.bad("what", (x, what) -> x.grace(0, what, 5), -1, 2, 3, LEAST, MOST);
        THREE.bad("what of groups", (x, what) -> x.grace(1, what, 5), -1, 2, LEAST, MOST);
    }

    private static void minutesOfGraces() {
        Twins told = new Twins(DUE, x -> x.grace(1, 1, 77));
        told.takes("the least", x -> x.grace(1, 1, 0) * 1000000 + x.grace(1, 1, 5), 77000000);
        told.takes("the most", x -> x.grace(1, 1, 100000) * 1000000 + x.grace(1, 1, 5), 77100000);
        told.bad("minutes", (x, minutes) -> x.grace(1, 1, minutes), -1, 100001, LEAST, MOST);
    }

    private static void graceAsItIsThen() {
        for (int i = 0; i < 4; i++) {
            int kind = i / 2;
            int what = i % 2;
            Twins over = new Twins(DUE, x -> {
                three(x);
                x.grace(kind, what, 5);
                x.limit(kind, 1, what, 2, NONE);
            });
            over.takes("a longer one later", x -> x.grace(kind, what, 100) * 0 + x.charged(kind, 1, 2 + what), 5);
            over.takes("a shorter one later", x -> x.grace(kind, what, 0) * 0 + more(x, what), 0);
            over.takes("a longer one does not help", x -> x.grace(kind, what, 100) * 0 + x.tick(5) * 0 + more(x, what), NO_QUOTA);
            over.takes("it counts from then on", x -> x.grace(kind, what, 100) * 0 + fewer(x, what) + more(x, what) + x.charged(kind, 1, 2 + what), 100);
        }
    }

    private static void toTheLastMinute(GuardedInodes x) {
        for (int i = 0; i < 100; i++) {
            x.tick(10000);
        }
    }

    private static void aTimeThatNeverComes() {
        Twins late = new Twins(DUE, x -> {
            three(x);
            toTheLastMinute(x);
            x.grace(0, INODES, 100000);
            x.limit(0, 1, INODES, 2, NONE);
        });
        late.takes("its time", x -> x.charged(0, 1, 3), 1100000);
        late.takes("it does not come", x -> x.tick(10000) * 0 + more(x, INODES), 0);
        Twins least = new Twins(DUE, x -> {
            three(x);
            toTheLastMinute(x);
            x.grace(0, INODES, 1);
            x.limit(0, 1, INODES, 2, NONE);
        });
        least.takes("one minute behind the last", x -> x.tick(10000) * 0 + more(x, INODES), 0);
        Twins out = new Twins(DUE, x -> {
            three(x);
            toTheLastMinute(x);
            x.limit(0, 1, INODES, 2, NONE);
        });
        out.takes("at the last minute", x -> x.charged(0, 1, 3), 1000000);
        out.refuses("it is out there", x -> more(x, INODES), NO_QUOTA);
    }

    private static void namesOfCharged() {
        Twins charged = new Twins(DUE, x -> {
            x.create(15, 0, 1, 0600);
            x.write(15, 1, 60, 8, 1);
            x.create(0, 0, 1, 0600);
            x.limit(0, 15, INODES, 0, NONE);
            x.limit(1, 15, BLOCKS, 1, NONE);
        });
        int[][] due = {{2, 1, NONE, 0}, {2, 1, 0, NONE}};
        for (int what = 0; what < 4; what++) {
            int field = what;
            charged.takes("the last user's " + what, x -> x.charged(0, 15, field), due[0][what]);
            charged.takes("the last group's " + what, x -> x.charged(1, 15, field), due[1][what]);
            charged.takes("the keeper's " + what, x -> x.charged(0, 0, field), what == 1 ? 1 : what == 0 ? 0 : NONE);
        }
        charged.bad("kind", (x, kind) -> x.charged(kind, 15, 0), -1, 2, LEAST, MOST);
        charged.bad("user", (x, id) -> x.charged(0, id, 0), -1, 16, LEAST, MOST);
        charged.bad("group", (x, id) -> x.charged(1, id, 3), -1, 16, LEAST, MOST);
        charged.bad("what", (x, what) -> x.charged(0, 15, what), -1, 4, 5, LEAST, MOST);
        charged.bad("what of groups", (x, what) -> x.charged(1, 15, what), -1, 4, LEAST, MOST);
    }

    private static void theRootIsNotCharged() {
        Twins root = new Twins(DUE, x -> {
            for (int i = 0; i < 60; i++) {
                x.feed(i);
            }
            x.put(0, 0, 0);
            x.limit(0, 0, BLOCKS, 0, NONE);
            x.limit(1, 0, INODES, 0, NONE);
        });
        for (int what = 0; what < 4; what++) {
            int field = what;
            root.takes("to the keeper: " + what, x -> x.charged(0, 0, field), what < 2 ? 0 : NONE);
            root.takes("to its group: " + what, x -> x.charged(1, 0, field), what < 2 ? 0 : NONE);
        }
    }

    private static void fieldsOfInodes() {
        Twins file = new Twins(DUE, x -> {
            x.create(15, 0, 2, 01777);
            x.chmod(15, 1, 03777);
            x.create(15, 1, 1, 0777);
            for (int pair = 0; pair < 6; pair++) {
                x.write(15, 2, 700 - pair * 128, 8, 1);
            }
            for (int i = 0; i < 60; i++) {
                x.feed(i);
            }
            x.put(0, 2, 0);
        });
        int[] folder = {2, 15, 15, 2047, 0, 0, 1, 0, NONE, NONE};
        int[] due = {1, 15, 15, 0777, 708, 1, 0, 13, 12, 10};
        for (int what = 0; what < due.length; what++) {
            int field = what;
            file.takes("folder's " + what, x -> x.inode(1, field), folder[what]);
            file.takes("file's " + what, x -> x.inode(2, field), due[what]);
        }
        file.takes("the last part", x -> x.inode(2, 20), 1);
        file.takes("a folder's last part", x -> x.inode(1, 20), NONE);
        file.takes("the root's last part", x -> x.inode(0, 20), NONE);
        for (int i = 0; i <= 2; i++) {
            int inode = i;
            file.bad("what of " + inode + ":", (x, what) -> x.inode(inode, what), -1, 21, 22, LEAST, MOST);
        }
    }

    private static void numbersOfInodes() {
        Twins last = new Twins(DUE, x -> {
            for (int made = 1; made <= 63; made++) {
                x.create(1, 0, 1, 0600);
            }
        });
        last.takes("the root", x -> x.inode(0, 0), 2);
        last.takes("the last", x -> x.inode(63, 0), 1);
        last.takes("how many lie in the root", x -> x.inode(0, 6), 63);
        last.bad("inode", (x, inode) -> x.inode(inode, 0), -1, 64, 65, LEAST, MOST);
        THREE.bad("one that is not there:", (x, inode) -> x.inode(inode, 0), 4, 63);
        THREE.takes("one that is gone", x -> x.remove(1, 3) + x.inode(3, 0), BAD);
        THREE.refuses("neither inode nor what", x -> x.inode(64, 21), BAD);
        Twins none = new Twins(DUE, x -> { });
        none.takes("the root is not counted in itself", x -> x.inode(0, 6), 0);
    }

    private static void countsOfNothingAndAll() {
        Twins none = new Twins(DUE, x -> { });
        none.takes("now", x -> x.count(0), 0);
        none.takes("blocks", x -> x.count(1), 256);
        none.takes("inodes", x -> x.count(2), 63);
        Twins all = new Twins(DUE, x -> {
            for (int made = 1; made <= 63; made++) {
                x.create(1, 0, 1, 0600);
            }
            for (int part = 0; part < 256; part += 2) {
                x.write(1, 1 + part / 12, part % 12 * 64 + 60, 8, 1);
            }
            toTheLastMinute(x);
        });
        all.takes("now", x -> x.count(0), 1000000);
        all.takes("blocks", x -> x.count(1), 0);
        all.takes("inodes", x -> x.count(2), 0);
        all.takes("a block", x -> x.resize(1, 1, 704) * 0 + x.count(1), 1);
        all.takes("an inode", x -> x.remove(1, 63) + x.count(2), 1);
        all.takes("the root's side block", x -> x.resize(1, 1, 0) * 0 + beside(x) + x.count(1), 11);
    }

    private static int beside(GuardedInodes x) {
        for (int i = 0; i < 38; i++) {
            x.feed(i);
        }
        return x.put(0, 0, 0) * 0;
    }

    private static void whatsOfCount() {
        THREE.takes("the least", x -> x.count(0), 0);
        THREE.takes("the last", x -> x.count(2), 60);
        THREE.bad("what", (x, what) -> x.count(what), -1, 3, 4, LEAST, MOST);
    }
}
