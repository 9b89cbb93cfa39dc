import java.util.ArrayList;
import java.util.List;
import java.util.function.Consumer;

/**
 * All that can be seen of a house. An object is good for 512 calls alone, so the answers are asked in parts, each of a
 * house that is built anew; the last parts take the house down, to see what the questions don't tell.
 */
final class Answers {
    private static final int PARTS = 7;
    private static final int ROOMS = 4;
    private static final int SHEETS = 8;
    private static final int BOOKINGS = 30;
    private static final int THREADS = 12;
    private static final int WALLS = 5;
    private static final int YEARS = 10;

    private final List<String> calls = new ArrayList<>();
    private final List<Integer> answers = new ArrayList<>();

    static Answers of(Consumer<LightHours> build) {
        Answers all = new Answers();
        for (int part = 0; part < PARTS; part++) {
            LightHours x = new LightHours();
            build.accept(x);
            all.ask(x, part);
        }
        return all;
    }

    void mustBe(Answers due, String when) {
        for (int at = 0; at < due.answers.size(); at++) {
            Due.is(due.calls.get(at) + " " + when, answers.get(at), due.answers.get(at));
        }
    }

    private void say(String call, int answer) {
        calls.add(call);
        answers.add(answer);
    }

    private void ask(LightHours x, int part) {
        switch (part) {
            case 0: rooms(x); break;
            case 1: sheets(x); break;
            case 2: spent(x); break;
            case 3: bookings(x); wallsFoundAnew(x); break;
            case 4: threadsTakenAway(x); break;
            case 5: wallsTakenAway(x); break;
            default: kept(x); break;
        }
    }

    private void rooms(LightHours x) {
        for (int room = 0; room < ROOMS; room++) {
            for (int year = 0; year < YEARS; year++) {
                say("light(" + room + ", " + year + ", false)", x.light(room, year, false));
                say("light(" + room + ", " + year + ", true)", x.light(room, year, true));
            }
        }
        many(x, "");
        say("hang()", x.hang());
        many(x, " behind hang()");
        bookings(x);
    }

    private void many(LightHours x, String when) {
        for (int what = 0; what <= 8; what++) {
            say("many(" + what + ")" + when, x.many(what));
        }
    }

    private void sheets(LightHours x) {
        for (int sheet = 0; sheet < SHEETS; sheet++) {
            for (int what = 0; what <= 7; what++) {
                say("of(" + sheet + ", " + what + ")", x.of(sheet, what));
            }
            say("left(" + sheet + ", false)", x.left(sheet, false));
            say("left(" + sheet + ", true)", x.left(sheet, true));
        }
        pasts(x, "");
    }

    private void pasts(LightHours x, String when) {
        for (int sheet = 0; sheet < SHEETS; sheet++) {
            say("pastOf(" + sheet + ", false)" + when, x.pastOf(sheet, false));
            say("pastOf(" + sheet + ", true)" + when, x.pastOf(sheet, true));
        }
    }

    private void spent(LightHours x) {
        for (int sheet = 0; sheet < SHEETS; sheet++) {
            for (int year = 0; year < YEARS; year++) {
                say("spent(" + sheet + ", " + year + ", false)", x.spent(sheet, year, false));
                say("spent(" + sheet + ", " + year + ", true)", x.spent(sheet, year, true));
            }
        }
    }

    private void bookings(LightHours x) {
        for (int booking = 0; booking < BOOKINGS; booking++) {
            for (int what = 0; what <= 6; what++) {
                say("booking(" + booking + ", " + what + ")", x.booking(booking, what));
            }
        }
    }

    private void walls(LightHours x, String when) {
        for (int wall = 0; wall < WALLS; wall++) {
            say("hung(" + wall + ")" + when, x.hung(wall));
        }
        say("worth()" + when, x.worth());
        for (int sheet = 0; sheet < SHEETS; sheet++) {
            say("spares(" + sheet + ")" + when, x.spares(sheet));
        }
    }

    /** Once as THE HANG may be remembered, and once behind a change that leaves all as it is. */
    private void wallsFoundAnew(LightHours x) {
        walls(x, "");
        say("keep()", x.keep());
        say("back()", x.back());
        walls(x, " behind keep() and back()");
    }

    private void threadsTakenAway(LightHours x) {
        for (int thread = 0; thread < THREADS; thread++) {
            say("cut()", x.cut());
            pasts(x, " with " + (thread + 1) + " cut");
        }
    }

    private void wallsTakenAway(LightHours x) {
        for (int wall = 0; wall < WALLS; wall++) {
            say("strip()", x.strip());
            walls(x, " with " + (wall + 1) + " stripped");
        }
    }

    private void kept(LightHours x) {
        say("back()", x.back());
        many(x, " when back");
        sheets(x);
        walls(x, " when back");
    }
}
