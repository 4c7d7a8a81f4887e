import java.util.ArrayList;
import java.util.List;

/**
 * Objects of one making, a fresh one for each call that is tried. Of a refused call it is seen that nothing is
 * done: an object that got it answers all questions as a twin that did not. The questions come in rows, each asked
 * of fresh twins, since what an object answers after its 512th call is free: a making has at most 300 calls.
 */
final class Twins {
    interface Making {
        void of(GuardedInodes x);
    }

    interface Call {
        long on(GuardedInodes x);
    }

    interface CallWith {
        long on(GuardedInodes x, int value);
    }

    private record Question(String text, Call call) {
    }

    private static final List<List<Question>> ROWS = rows();
    private static final List<List<List<Question>>> ROWS_OF_INODES = rowsOfInodes();

    private final Due due;
    private final Making making;

    Twins(Due due, Making making) {
        this.due = due;
        this.making = making;
    }

    void takes(String what, Call call, long want) {
        due.is(what, call.on(made()), want);
    }

    void refuses(String what, Call call, long want) {
        due.is(what, call.on(made()), want);
        for (List<Question> row : ROWS) {
            same(what, call, row);
        }
        for (int inode = 0; inode < 64; inode++) {
            if (made().inode(inode, 0) != GuardedInodes.BAD) {
                for (List<Question> row : ROWS_OF_INODES.get(inode)) {
                    same(what, call, row);
                }
            }
        }
    }

    void answers(String what, Call call, long want) {
        if (want < GuardedInodes.NONE) {
            refuses(what, call, want);
        } else {
            takes(what, call, want);
        }
    }

    /** Each value is one that the call does not take. */
    void bad(String what, CallWith call, int... values) {
        for (int value : values) {
            refuses(what + " " + value, x -> call.on(x, value), GuardedInodes.BAD);
        }
    }

    private GuardedInodes made() {
        GuardedInodes x = new GuardedInodes();
        making.of(x);
        return x;
    }

    private void same(String what, Call call, List<Question> row) {
        GuardedInodes plain = made();
        GuardedInodes refused = made();
        call.on(refused);
        for (Question question : row) {
            due.is(what + " does nothing, " + question.text, question.call.on(refused), question.call.on(plain));
        }
    }

    private static List<List<Question>> rows() {
        List<List<Question>> rows = new ArrayList<>();
        rows.add(counts());
        rows.add(users());
        rows.add(members(0));
        rows.add(members(8));
        rows.add(value());
        rows.add(List.of(new Question("feed(7)", x -> x.feed(7))));
        return rows;
    }

    private static List<List<List<Question>>> rowsOfInodes() {
        List<List<List<Question>>> rows = new ArrayList<>();
        for (int inode = 0; inode < 64; inode++) {
            rows.add(List.of(fields(inode), attributes(inode), data(inode)));
        }
        return rows;
    }

    private static void ask(List<Question> row, String text, Call call) {
        row.add(new Question(text, call));
    }

    private static List<Question> counts() {
        List<Question> row = new ArrayList<>();
        for (int i = 0; i < 3; i++) {
            int what = i;
            ask(row, "count(" + what + ")", x -> x.count(what));
        }
        for (int i = 0; i < 64; i++) {
            int inode = i;
            ask(row, "inode(" + inode + ", 0)", x -> x.inode(inode, 0));
        }
        for (int i = 0; i < 128; i++) {
            int kind = i / 64;
            int id = i / 4 % 16;
            int what = i % 4;
            ask(row, "charged(" + kind + ", " + id + ", " + what + ")", x -> x.charged(kind, id, what));
        }
        return row;
    }

    private static List<Question> users() {
        List<Question> row = new ArrayList<>();
        for (int i = 0; i < 16; i++) {
            int user = i;
            ask(row, "first(" + user + ", 0)", x -> x.first(user, 0));
            ask(row, "mask(" + user + ", 0)", x -> x.mask(user, 0));
        }
        for (int i = 0; i < 4; i++) {
            int kind = i / 2;
            int what = i % 2;
            ask(row, "grace(" + kind + ", " + what + ", 0)", x -> x.grace(kind, what, 0));
        }
        return row;
    }

    private static List<Question> members(int from) {
        List<Question> row = new ArrayList<>();
        for (int i = from * 16; i < (from + 8) * 16; i++) {
            int user = i / 16;
            int group = i % 16;
            ask(row, "member(" + user + ", " + group + ", false)", x -> x.member(user, group, false));
        }
        return row;
    }

    /** The value is seen once it is put, for which room is made. */
    private static List<Question> value() {
        List<Question> row = new ArrayList<>();
        for (int i = 0; i < 64; i++) {
            int inode = i;
            ask(row, "resize(0, " + inode + ", 0)", x -> x.resize(0, inode, 0));
        }
        for (int i = 0; i < 32; i++) {
            int attribute = i;
            ask(row, "take(0, 0, " + attribute + ")", x -> x.take(0, 0, attribute));
        }
        ask(row, "put(0, 0, 0)", x -> x.put(0, 0, 0));
        for (int i = 0; i < 60; i++) {
            int k = i;
            ask(row, "attribute(0, 0, 0, " + k + ")", x -> x.attribute(0, 0, 0, k));
        }
        return row;
    }

    private static List<Question> fields(int inode) {
        List<Question> row = new ArrayList<>();
        for (int i = 0; i <= 20; i++) {
            int what = i;
            ask(row, "inode(" + inode + ", " + what + ")", x -> x.inode(inode, what));
        }
        for (int i = 0; i < 30; i++) {
            int what = i;
            ask(row, "list(" + inode + ", false, " + what + ")", x -> x.list(inode, false, what));
            ask(row, "list(" + inode + ", true, " + what + ")", x -> x.list(inode, true, what));
        }
        return row;
    }

    private static List<Question> attributes(int inode) {
        List<Question> row = new ArrayList<>();
        for (int i = 0; i < 32; i++) {
            int attribute = i;
            ask(row, "side(" + inode + ", " + attribute + ")", x -> x.side(inode, attribute));
            for (int k : new int[] {-1, 0, 1, 59}) {
                ask(row, "attribute(0, " + inode + ", " + attribute + ", " + k + ")", x -> x.attribute(0, inode, attribute, k));
            }
        }
        return row;
    }

    private static List<Question> data(int inode) {
        List<Question> row = new ArrayList<>();
        for (int i = 0; i < 96; i++) {
            int place = i * 8;
            ask(row, "read(0, " + inode + ", " + place + ", 8)", x -> x.read(0, inode, place, 8));
        }
        return row;
    }
}
