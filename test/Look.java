import java.util.ArrayList;
import java.util.List;

/**
 * All that can be seen of an object behind some calls: what it answers when it is asked, and then what comes of it
 * when all that is under way goes on. Two objects that look alike are taken to be as one another.
 */
final class Look {
    private final NameRevisions x = new NameRevisions();
    private final List<String> told = new ArrayList<>();
    private int room;

    private Look() {
    }

    /** What is seen behind calls, by so many calls at most. */
    static List<String> behind(List<Call> calls, int room) {
        Look look = new Look();
        for (Call call : calls) {
            call.on(look.x);
        }
        look.room = room;
        look.ask();
        look.goOn();
        look.call("undo");
        look.ask();
        return look.told;
    }

    private int call(String name, long... numbers) {
        if (room == 0) {
            return 0;
        }
        room--;
        Call call = new Call(name, numbers);
        long answer = call.on(x);
        told.add(call + " = " + answer);
        return (int) answer;
    }

    private void ask() {
        int names = call("count", 0);
        for (int what = 1; what < 6; what++) {
            call("count", what);
        }
        for (int what = 0; what < 7; what++) {
            call("state", what);
        }
        askOfNames(names);
        askOfDeals();
        call("looked");
        for (int n = 0; n < names; n++) {
            call("ends", n);
            call("after", 0, 1, n);
            call("after", 1, 9, n);
        }
        for (int tape = 0; tape < 6; tape++) {
            call("judge", tape, 0);
            for (int i = 0; i < 3; i++) {
                call("read", tape, i);
            }
            call("read", tape, 59);
        }
    }

    private void askOfNames(int names) {
        for (int n = 0; n < names; n++) {
            int entries = 0;
            for (int what = 0; what < 8; what++) {
                int answer = call("of", n, what);
                entries = what == 5 ? answer : entries;
            }
            for (int k = 0; k < entries; k++) {
                for (int what = 0; what < 3; what++) {
                    call("journal", n, k, what);
                }
            }
        }
    }

    private void askOfDeals() {
        int there = call("state", 5);
        for (int deal = 0; deal < 4; deal++) {
            for (int what = 0; what < 4 && (there >> deal & 1) != 0; what++) {
                call("told", deal, what);
            }
        }
        for (int set = 0; set < 16; set++) {
            if ((set & ~there) == 0) {
                call("orders", set);
                call("fits", set, 0);
                call("fits", set, 1);
            }
        }
    }

    private void goOn() {
        call("name");
        int names = call("count", 0);
        call("step", 0, 1);
        call("step", 1, 1);
        for (int deal = 0; deal < 4; deal++) {
            call("prepare", deal);
            call("commit", deal);
            call("step", 0, 20);
            for (int n = 0; n < names; n++) {
                call("of", n, 1);
            }
        }
        call("step", 1, 20);
        for (int n = 0; n < names; n++) {
            call("of", n, 2);
            call("of", n, 3);
        }
        for (int tape = 0; tape < 6; tape++) {
            call("item", tape, 0, 0x123456789abcdef0L);
            call("read", tape, 0);
        }
    }
}
