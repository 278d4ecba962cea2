import java.util.NoSuchElementException;

/** What can be seen of an object by calls that change nothing, as a text. */
final class Look {
    private Look() {
    }

    /** All of it: the town, the tape, the fault's place and the status. */
    static String all(DuskTown x) {
        return town(x) + " tape " + x.count(6) + " fault " + x.fault() + " status " + x.count(7) + ' ' + x.count(8);
    }

    /** What stays of a town with a fault: all but the tape, the fault's place and the status. */
    static String town(DuskTown x) {
        StringBuilder seen = new StringBuilder("counts");
        for (int what = 0; what <= 5; what++) {
            seen.append(' ').append(x.count(what));
        }
        seen.append(" prices");
        for (int person = 0; person < x.count(0); person++) {
            seen.append(' ').append(x.price(person));
        }
        for (int meeting = 0; meeting < x.count(1); meeting++) {
            seen.append(" meeting");
            for (int what = 0; what <= 2; what++) {
                seen.append(' ').append(x.meeting(meeting, what));
            }
            seen.append(" row ").append(row(x, meeting));
        }
        for (int promise = 0; promise < x.count(2); promise++) {
            seen.append(" promise");
            for (int what = 0; what <= 7; what++) {
                seen.append(' ').append(x.promise(promise, what));
            }
            seen.append(" tales");
            for (int person = 0; person < x.count(0); person++) {
                seen.append(' ').append(x.tale(person, promise, 99, 11));
            }
        }
        return seen.toString();
    }

    private static String row(DuskTown x, int meeting) {
        try {
            return String.valueOf(x.kept(meeting));
        } catch (NoSuchElementException e) {
            return "none";
        }
    }
}
