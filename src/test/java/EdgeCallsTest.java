/**
 * Promises 1, 5 to 8, 19 and 20, and all refused calls: the last argument that is allowed, the
 * first that is not, at both ends; what stays and what is gone behind each.
 */
public final class EdgeCallsTest {
    private static final int EACH = DuskTown.NONE;
    private static final int[] OUTSIDE = {-1, Integer.MIN_VALUE, Integer.MAX_VALUE, -256, 256, 1 << 16, 1 << 30};

    private interface Call {
        void on(DuskTown x);
    }

    public static void main(String[] args) {
        newObject();
        counts();
        prices();
        meetings();
        promises();
        missingLeavesAll();
        illegalLeavesAll();
        noneLeavesAll();
        statusOfRefusedCalls();
        imageOfANewObject();
        imageInPlaceOfAnother();
        imageKeepsWhatItNames();
        imageKeepsSayings();
        imageKeepsStatus();
        imageIsNotChanged();
        imageGoneWithANewTown();
        imageStaysWithAFault();
        imageKeepsNoRowNoTapeNoFault();
        restoreWithoutAnImage();
        restoreOverDaysBothWays();
        objectsApart();
        Check.end("EdgeCallsTest");
    }

    /** A town in which something stands in each place, one promise in each of its three states. */
    private static DuskTown lived() {
        DuskTown x = Check.town("people 3;price 1 4;meet 0 2 at 3;meet 2 1 at 3;promise 0 1 at 0;promise 1 0 at 0;"
            + "promise 2 1 day 9 at 11 on 0;");
        x.say(EACH, 0, 0, 0);
        x.say(1, 1, 1, 1);
        x.say(0, 0, 2, 0);
        Check.same("promise 1 falls on day 0", x.days(1), 1);
        Check.same("a row is kept", x.keep(0, 3, 0, 0), 3);
        x.image();
        Check.tell(x, "people 3;x");
        Check.feedText(x, "people 4;");
        return x;
    }

    // "Two PEOPLE, nothing told."
    private static void newObject() {
        DuskTown x = new DuskTown();
        Check.same("all of it", Look.all(x), "counts 2 0 0 0 0 0 prices 1 1 tape 0 fault -1 status 0 0");
        Check.missing("price(2)", () -> x.price(2));
        Check.missing("meeting(0, 0)", () -> x.meeting(0, 0));
        Check.missing("promise(0, 0)", () -> x.promise(0, 0));
        Check.missing("say", () -> x.say(EACH, 0, 0, 0));
        Check.missing("kept(0)", () -> x.kept(0));
        Check.missing("keep", () -> x.keep(0, 1, 0, 0));
        Check.missing("silence", () -> x.silence(0, 1));
        Check.missing("stands", () -> x.stands(0, 0));
        Check.missing("pairs", () -> x.pairs(0, 1));
        Check.missing("tale", () -> x.tale(0, 0, 0, 0));
        Check.missing("lacks", () -> x.lacks(0, 0, 0, 0));
        Check.illegal("town(1)", () -> x.town(1));
        Check.same("unsay()", x.unsay(), DuskTown.NONE);
        Check.same("restore()", x.restore(), false);
        Check.same("nothing changed", Look.all(x), "counts 2 0 0 0 0 0 prices 1 1 tape 0 fault -1 status 0 0");
        Check.same("days(1)", x.days(1), 0);
        Check.same("the first feed", x.feed(0, 0, 0, 0, 0), 20);
    }

    // count: "NoSuchElementException: another what."
    private static void counts() {
        DuskTown x = lived();
        int[] due = {3, 2, 3, 2, 1, 1, 20, 1, 1};
        for (int what = 0; what < due.length; what++) {
            Check.same("count(" + what + ")", x.count(what), due[what]);
        }
        Check.missing("count(9)", () -> x.count(9));
        for (int what : OUTSIDE) {
            Check.missing("count(" + what + ")", () -> x.count(what));
        }
    }

    // price: "no such PERSON (as everywhere)"
    private static void prices() {
        for (int people = 2; people <= 6; people++) {
            int end = people;
            DuskTown x = Check.town("people " + people + ";price 0 7;price " + (people - 1) + " 8;");
            Check.same("the first price", x.price(0), 7);
            Check.same("the last price", x.price(people - 1), 8);
            Check.missing("price(" + end + ")", () -> x.price(end));
            for (int person : OUTSIDE) {
                Check.missing("price(" + person + ")", () -> x.price(person));
            }
        }
    }

    // meeting: "no such MEETING (as everywhere), what"
    private static void meetings() {
        DuskTown x = Check.town("people 6;meet 5 0 at 11;meet 1 4 at 0;meet 2 3 at 7;");
        int[][] due = {{5, 0, 11}, {1, 4, 0}, {2, 3, 7}};
        for (int meeting = 0; meeting < 3; meeting++) {
            for (int what = 0; what < 3; what++) {
                Check.same("meeting(" + meeting + ", " + what + ")", x.meeting(meeting, what), due[meeting][what]);
            }
            int at = meeting;
            Check.missing("meeting(" + meeting + ", 3)", () -> x.meeting(at, 3));
        }
        for (int what = 0; what <= 3; what++) {
            int asked = what;
            Check.missing("meeting(3, " + what + ")", () -> x.meeting(3, asked));
        }
        for (int wrong : OUTSIDE) {
            Check.missing("meeting(" + wrong + ", 0)", () -> x.meeting(wrong, 0));
            Check.missing("meeting(0, " + wrong + ")", () -> x.meeting(0, wrong));
            Check.missing("meeting(" + wrong + ", " + wrong + ")", () -> x.meeting(wrong, wrong));
        }
    }

    // promise: "5 what it is (0 not made yet, 1 it stands, 2 UNDONE), 6 on which DAY it was UNDONE (NONE), 7 who KNOWS it"
    private static void promises() {
        DuskTown x = lived();
        int[][] due = {{0, 1, 0, 0, 0, 1, -1, 7}, {1, 0, 0, 0, 0, 2, 0, 3}, {2, 1, 9, 11, 1, 0, -1, 0}};
        for (int promise = 0; promise < 3; promise++) {
            for (int what = 0; what < 8; what++) {
                Check.same("promise(" + promise + ", " + what + ")", x.promise(promise, what), due[promise][what]);
            }
            int at = promise;
            Check.missing("promise(" + promise + ", 8)", () -> x.promise(at, 8));
        }
        for (int what = 0; what <= 8; what++) {
            int asked = what;
            Check.missing("promise(3, " + what + ")", () -> x.promise(3, asked));
        }
        for (int wrong : OUTSIDE) {
            Check.missing("promise(" + wrong + ", 0)", () -> x.promise(wrong, 0));
            Check.missing("promise(0, " + wrong + ")", () -> x.promise(0, wrong));
        }
    }

    // a call that throws changes nothing: neither what can be seen, nor the sayings, nor the image
    private static void leavesAll(String what, Class<?> thrown, Call call) {
        DuskTown x = lived();
        String before = Look.all(x);
        if (thrown == IllegalArgumentException.class) {
            Check.illegal(what, () -> call.on(x));
        } else if (thrown != null) {
            Check.missing(what, () -> call.on(x));
        } else {
            call.on(x);
        }
        Check.same("behind " + what, Look.all(x), before);
        Check.same("days behind " + what, x.days(1), 0);
        Check.same("what is paid behind " + what, x.count(5), 2);
        Check.same("restore() behind " + what, x.restore(), true);
        Check.same("the day in the image behind " + what, x.count(4), 1);
        Check.same("the tape behind " + what, x.town(9), 0);
        Check.same("what it told behind " + what, x.count(0), 4);
    }

    private static void missingLeavesAll() {
        Class<?> missing = java.util.NoSuchElementException.class;
        leavesAll("count(9)", missing, x -> x.count(9));
        leavesAll("price(3)", missing, x -> x.price(3));
        leavesAll("meeting(2, 0)", missing, x -> x.meeting(2, 0));
        leavesAll("meeting(0, 3)", missing, x -> x.meeting(0, 3));
        leavesAll("promise(3, 0)", missing, x -> x.promise(3, 0));
        leavesAll("promise(0, 8)", missing, x -> x.promise(0, 8));
        leavesAll("say of meeting 2", missing, x -> x.say(EACH, 2, 0, 0));
        leavesAll("say of promise 3", missing, x -> x.say(EACH, 0, 0, 3));
        leavesAll("keep of promise 3", missing, x -> x.keep(3, 1, 0, 0));
        leavesAll("keep of one undone", missing, x -> x.keep(1, 1, 0, 0));
        leavesAll("keep of one not made yet", missing, x -> x.keep(2, 1, 0, 0));
        leavesAll("keep of another what", missing, x -> x.keep(0, 1, 0, 2));
        leavesAll("kept(2)", missing, x -> x.kept(2));
        leavesAll("silence of one undone", missing, x -> x.silence(1, 1));
        leavesAll("stands of one not made yet", missing, x -> x.stands(2, 0));
        leavesAll("pairs of promise 3", missing, x -> x.pairs(3, 1));
        leavesAll("tale of person 3", missing, x -> x.tale(3, 0, 0, 0));
        leavesAll("tale of day 100", missing, x -> x.tale(0, 0, 100, 0));
        leavesAll("lacks of promise 3", missing, x -> x.lacks(0, 3, 0, 0));
        leavesAll("lacks of hour 12", missing, x -> x.lacks(0, 0, 0, 12));
    }

    private static void illegalLeavesAll() {
        Class<?> illegal = IllegalArgumentException.class;
        leavesAll("town(21)", illegal, x -> x.town(21));
        leavesAll("town(-1)", illegal, x -> x.town(-1));
        leavesAll("days(-1)", illegal, x -> x.days(-1));
        leavesAll("days(101)", illegal, x -> x.days(101));
        leavesAll("keep of 0 days", illegal, x -> x.keep(0, 0, 0, 0));
        leavesAll("keep of 401 days", illegal, x -> x.keep(0, 401, 0, 0));
        leavesAll("keep of silent 8", illegal, x -> x.keep(0, 1, 8, 0));
        leavesAll("silence of 0 days", illegal, x -> x.silence(0, 0));
        leavesAll("silence of 61 days", illegal, x -> x.silence(0, 61));
        leavesAll("stands of silent 8", illegal, x -> x.stands(0, 8));
        leavesAll("pairs of 0 days", illegal, x -> x.pairs(0, 0));
        leavesAll("pairs of 61 days", illegal, x -> x.pairs(0, 61));
    }

    private static void noneLeavesAll() {
        leavesAll("days(0)", null, x -> x.days(0));
        leavesAll("keep that can't be", null, x -> x.keep(0, 1, 7, 0));
        leavesAll("lacks of nobody", null, x -> x.lacks(0, 2, 0, 0));
        leavesAll("tale", null, x -> x.tale(2, 0, 99, 11));
        leavesAll("silence", null, x -> x.silence(0, 60));
        leavesAll("image()", null, DuskTown::image);
        leavesAll("a saying and its unsaying", null, x -> {
            x.say(0, 1, 1, 1);
            x.unsay();
        });
    }

    // "STATUS: how many calls were refused: 0 of TEXTS with a FAULT, 1 of SAYINGS."
    private static void statusOfRefusedCalls() {
        DuskTown x = Check.town("meet 0 1 at 0;promise 0 1 at 0;");
        Check.illegal("town(1)", () -> x.town(1));
        Check.missing("say", () -> x.say(0, 1, 0, 0));
        Check.illegal("days(101)", () -> x.days(101));
        x.unsay();
        x.restore();
        Check.same("a good text", Check.tell(x, "meet 0 1 at 0;promise 0 1 at 0;"), 0);
        x.say(0, 0, 0, 0);
        Check.same("none of these is a text with a fault", x.count(7), 0);
        Check.same("none of these is a refused saying", x.count(8), 0);
        for (int i = 1; i <= 5; i++) {
            Check.tell(x, "x");
            Check.same("texts", x.count(7), i);
            Check.same("sayings", x.count(8), 0);
        }
        for (int i = 1; i <= 5; i++) {
            x.say(i % 2 == 0 ? 100 : 0, 0, i % 2 == 0 ? 0 : 2, 0);
            Check.same("sayings", x.count(8), i);
            Check.same("texts", x.count(7), 5);
        }
        x.say(100, 0, 2, 0);
        Check.same("refused for two reasons, once", x.count(8), 6);
        Check.tell(x, "people 3;");
        Check.same("texts behind a new town", x.count(7), 5);
        Check.same("sayings behind a new town", x.count(8), 6);
    }

    private static void imageOfANewObject() {
        DuskTown x = new DuskTown();
        x.image();
        x.days(50);
        Check.tell(x, "x");
        Check.same("restore()", x.restore(), true);
        Check.same("the day", x.count(4), 0);
        Check.same("the status", x.count(7), 0);
        Check.same("people", x.count(0), 2);
    }

    // "AN IMAGE is kept, in place of another one."
    private static void imageInPlaceOfAnother() {
        DuskTown x = Check.town("people 3;meet 0 2 at 3;promise 0 1 at 0;");
        x.say(EACH, 0, 0, 0);
        for (int day = 0; day < 3; day++) {
            x.image();
            x.days(1);
        }
        for (int i = 0; i < 3; i++) {
            Check.same("restore() again and again", x.restore(), true);
            Check.same("the latest", x.count(4), 2);
            x.days(7);
        }
    }

    // "AN IMAGE keeps the DAY, what stands, KNOW, PAID, SAYINGS, STATUS."
    private static void imageKeepsWhatItNames() {
        DuskTown x = Check.town("people 4;price 0 5;meet 0 2 at 3;meet 2 3 at 4;promise 0 1 at 0;promise 0 1 at 0;promise 0 1 day 2 at 0;");
        x.say(EACH, 0, 0, 0);
        x.days(1);
        x.image();
        String then = Look.all(x);
        x.say(EACH, 1, 0, 0);
        x.days(1);
        Check.same("the day", x.count(4), 2);
        Check.same("KNOW", x.promise(0, 7), 13);
        Check.same("PAID", x.count(5), 11);
        x.unsay();
        x.unsay();
        x.days(3);
        Check.same("what stands", x.promise(0, 5), 2);
        Check.same("restore()", x.restore(), true);
        Check.same("all as in the image", Look.all(x), then);
        Check.same("day 1 goes as it would", x.days(1), 0);
        Check.same("its KNOW", x.promise(0, 7), 5);
        Check.same("its PAID", x.count(5), 10);
        Check.same("day 2 as it would", x.days(1), 1);
        Check.same("the one of day 2", x.promise(2, 6), 2);
    }

    private static void imageKeepsSayings() {
        DuskTown x = Check.town("people 3;meet 0 2 at 3;promise 0 1 at 0;promise 0 1 at 0;");
        for (int i = 0; i < 59; i++) {
            x.say(99, 0, 1, 0);
        }
        x.say(0, 0, 0, 1);
        x.image();
        for (int i = 0; i < 60; i++) {
            x.unsay();
        }
        for (int i = 0; i < 60; i++) {
            x.say(0, 0, 0, 0);
        }
        Check.same("restore()", x.restore(), true);
        Check.same("sixty", x.count(3), 60);
        Check.same("one more", x.say(0, 0, 0, 0), DuskTown.NONE);
        Check.same("the sixtieth is the one of the image", x.days(1), 1);
        Check.same("promise 1 stands by it", x.promise(1, 5), 1);
        DuskTown none = Check.town("people 3;meet 0 2 at 3;promise 0 1 at 0;");
        none.image();
        none.say(EACH, 0, 0, 0);
        none.restore();
        Check.same("no sayings", none.count(3), 0);
        Check.same("none to take back", none.unsay(), DuskTown.NONE);
        Check.same("it is no tale", none.tale(2, 0, 0, 3), 1);
        Check.same("it falls", none.days(1), 1);
    }

    private static void imageKeepsStatus() {
        DuskTown x = Check.town("meet 0 1 at 3;promise 0 1 at 0;");
        Check.tell(x, "x");
        x.say(100, 0, 0, 0);
        x.say(100, 0, 0, 0);
        x.image();
        Check.tell(x, "x");
        Check.tell(x, "x");
        x.say(100, 0, 0, 0);
        Check.same("texts", x.count(7), 3);
        Check.same("sayings", x.count(8), 3);
        x.restore();
        Check.same("texts in the image", x.count(7), 1);
        Check.same("sayings in the image", x.count(8), 2);
        x.say(100, 0, 0, 0);
        Check.same("they go on from there", x.count(8), 3);
    }

    // what happens behind an image, or behind a restore, does not reach it
    private static void imageIsNotChanged() {
        DuskTown x = lived();
        String then = null;
        for (int i = 0; i < 3; i++) {
            Check.same("restore()", x.restore(), true);
            String now = Look.town(x);
            Check.same("as the first time", now, then == null ? now : then);
            then = now;
            x.days(12);
            x.say(EACH, 1, 0, 0);
            x.unsay();
            x.unsay();
            x.say(3, 1, 0, 1);
        }
    }

    // town: "SAYINGS, PAID, the KEEPING, the image are gone."
    private static void imageGoneWithANewTown() {
        DuskTown x = lived();
        Check.same("the tape's town", x.town(9), 0);
        Check.same("no image", x.restore(), false);
        Check.same("people of the new town", x.count(0), 4);
        x.image();
        x.days(2);
        Check.same("an image of its own", x.restore(), true);
        Check.same("day 0", x.count(4), 0);
        Check.same("town(0)", x.town(0), 0);
        Check.same("no image again", x.restore(), false);
    }

    // town: "or the FAULT (all stays, but STATUS)"
    private static void imageStaysWithAFault() {
        DuskTown x = lived();
        x.days(4);
        Check.tell(x, "x");
        Check.illegal("town(1)", () -> x.town(1));
        Check.same("the image is there", x.restore(), true);
        Check.same("day 1", x.count(4), 1);
        Check.same("texts as in the image", x.count(7), 0);
    }

    private static void imageKeepsNoRowNoTapeNoFault() {
        DuskTown x = lived();
        Check.same("a row behind the image", x.keep(0, 1, 1, 0), 1);
        Check.same("restore()", x.restore(), true);
        Check.same("the row is the latest", x.kept(0), 0);
        Check.same("at the second meeting", x.kept(1), 1);
        Check.same("the tape", x.count(6), 20);
        Check.same("the fault's place", x.fault(), 9);
        DuskTown y = Check.town("people 3;meet 0 2 at 3;promise 0 1 at 0;");
        y.say(EACH, 0, 0, 0);
        y.days(1);
        y.image();
        y.restore();
        Check.missing("no row came from the image", () -> y.kept(0));
        y.keep(0, 1, 0, 0);
        y.restore();
        Check.same("the row stays", y.kept(0), 1);
    }

    // restore: "False: there is none."
    private static void restoreWithoutAnImage() {
        DuskTown x = Check.town("people 3;meet 0 2 at 3;promise 0 1 at 0;");
        x.say(EACH, 0, 0, 0);
        x.say(EACH, 0, 2, 0);
        x.days(1);
        String before = Look.all(x);
        for (int i = 0; i < 2; i++) {
            Check.same("restore()", x.restore(), false);
            Check.same("nothing changes", Look.all(x), before);
        }
    }

    // an image of a day behind the town's, taken back and forth
    private static void restoreOverDaysBothWays() {
        DuskTown x = Check.town("people 3;meet 0 2 at 3;promise 0 1 at 0;promise 0 1 day 1 at 0;");
        x.image();
        Check.same("days without a saying", x.days(3), 2);
        x.restore();
        Check.same("ahead of all", x.promise(0, 5) + x.promise(1, 5), 0);
        Check.same("nobody knows", x.promise(0, 7), 0);
        x.say(EACH, 0, 0, 0);
        Check.same("days with one", x.days(3), 1);
        Check.same("the first stands", x.promise(0, 5), 1);
        Check.same("it was never undone", x.promise(0, 6), -1);
        x.image();
        x.days(100);
        x.unsay();
        x.days(1);
        x.restore();
        Check.same("day 3 again", x.count(4), 3);
        Check.same("undone on day 1", x.promise(1, 6), 1);
        Check.same("it can be kept", x.keep(0, 5, 0, 0), 5);
    }

    // two objects have nothing in common
    private static void objectsApart() {
        DuskTown x = lived();
        String before = Look.all(x);
        DuskTown y = lived();
        y.days(50);
        y.keep(0, 1, 1, 0);
        y.unsay();
        Check.tell(y, "people 6;price 0 50;");
        Check.same("the other one", Look.all(x), before);
    }
}
