/** Promises 1 to 8: a new object, the tape, the text and its faults, what a town holds. */
public final class TextTest {
    private static final String SMALL = "people 3;price 0 5;meet 0 1 at 2;meet 1 2 at 4;"
        + "promise 0 1 at 1;promise 1 2 day 1 at 3 on 0;";

    public static void main(String[] args) {
        promise1NewObject();
        promise2Feed();
        promise3Town();
        promise3Gone();
        promise4Faults();
        promise4Limits();
        promise5Count();
        promise6Price();
        promise7Meeting();
        promise8Promise();
        Check.end("TextTest");
    }

    private static void promise1NewObject() {
        DuskTown x = new DuskTown();
        int[] due = {2, 0, 0, 0, 0, 0, 0, 0, 0};
        for (int what = 0; what < due.length; what++) {
            Check.same("count(" + what + ") of a new object", x.count(what), due[what]);
        }
        Check.same("price(0) of a new object", x.price(0), 1);
        Check.same("fault() of a new object", x.fault(), DuskTown.NONE);
        Check.same("unsay() of a new object", x.unsay(), DuskTown.NONE);
        Check.same("restore() of a new object", x.restore(), false);
        Check.missing("kept(0) of a new object", () -> x.kept(0));
        Check.missing("meeting(0, 0) of a new object", () -> x.meeting(0, 0));
        Check.missing("promise(0, 0) of a new object", () -> x.promise(0, 0));
        Check.missing("say of a new object", () -> x.say(0, 0, 0, 0));
        Check.missing("tale of a new object", () -> x.tale(0, 0, 0, 0));
        Check.same("days(100) of a new object", x.days(100), 0);
    }

    private static void promise2Feed() {
        DuskTown x = new DuskTown();
        for (int i = 1; i <= 35; i++) {
            Check.same("feed " + i, x.feed(i, -1, 0, 1, 2), 20 * i);
        }
        Check.same("feed 36", x.feed(0, 0, 0, 0, 0), DuskTown.NONE);
        Check.same("bytes after feed 36", x.count(6), 700);
        Check.same("town of zero bytes", x.town(700), 1);
        Check.same("bytes after town", x.count(6), 0);
        // "people 6;" and blanks, the highest byte of each number first
        Check.same("feed of people", x.feed(0x70656f70, 0x6c652036, 0x3b202020, 0x20202020, 0x20202020), 20);
        Check.same("town of people", x.town(20), 0);
        Check.same("people", x.count(0), 6);
        // bytes of 128 and more are no letters, though their low bits may be
        x.feed(0xf0656f70, 0x6c652036, 0x3b202020, 0x20202020, 0x20202020);
        Check.same("town with byte 240", x.town(20), 1);
        Check.same("its place", x.fault(), 0);
    }

    private static void promise3Town() {
        DuskTown x = new DuskTown();
        Check.same("town(0)", x.town(0), 0);
        Check.illegal("town(1) of an empty tape", () -> x.town(1));
        Check.feedText(x, "people 5;");
        Check.illegal("town(-1)", () -> x.town(-1));
        Check.illegal("town(21)", () -> x.town(21));
        Check.same("the tape after both", x.count(6), 20);
        Check.same("the first 8 bytes", x.town(8), 1);
        Check.same("the place is the length read", x.fault(), 8);
        Check.same("the tape after a fault", x.count(6), 0);
        Check.same("refused texts", x.count(7), 1);
        Check.same("people stay", x.count(0), 2);
        Check.illegal("town(1) after a fault", () -> x.town(1));
        Check.same("fault() stays when town() throws", x.fault(), 8);
        Check.same("a good one", Check.tell(x, "people 5;"), 0);
        Check.same("people", x.count(0), 5);
        Check.same("fault() without one", x.fault(), DuskTown.NONE);
        Check.same("refused texts are not gone", x.count(7), 1);
        Check.same("a blank one", Check.tell(x, " \n \n"), 0);
        Check.same("people without", x.count(0), 2);
        Check.same("no blanks needed", Check.tell(x, "people3;meet0 1at2;promise0 1day7at3;"), 0);
        Check.same("its meeting", x.meeting(0, 2), 2);
        Check.same("its promise", x.promise(0, 2), 7);
        Check.same("leading noughts", Check.tell(x, "\n people 003 ;price 002 099;"), 0);
        Check.same("their people", x.count(0), 3);
        Check.same("their price", x.price(2), 99);
        Check.same("a price told twice", Check.tell(x, "price 0 7;price 0 8;"), 0);
        Check.same("the latest counts", x.price(0), 8);
    }

    private static void promise3Gone() {
        DuskTown x = Check.town(SMALL);
        x.say(DuskTown.NONE, 1, 0, 0);
        x.say(0, 1, 7, 0);
        x.days(1);
        x.keep(0, 1, 0, 0);
        x.image();
        Check.same("a fault", Check.tell(x, "people 9;"), 2);
        Check.same("meetings stay", x.count(1), 2);
        Check.same("sayings stay", x.count(3), 1);
        Check.same("the day stays", x.count(4), 1);
        Check.same("what was paid stays", x.count(5), 1);
        Check.same("the row stays", x.kept(1), 1);
        Check.same("the promise stands still", x.promise(0, 5), 1);
        Check.same("the image stays", x.restore(), true);
        Check.same("a new town", Check.tell(x, SMALL), 0);
        Check.same("no sayings", x.count(3), 0);
        Check.same("day 0", x.count(4), 0);
        Check.same("nothing paid", x.count(5), 0);
        Check.same("status 1 stays", x.count(8), 1);
        Check.missing("no row", () -> x.kept(1));
        Check.same("no image", x.restore(), false);
        Check.same("not made yet", x.promise(0, 5), 0);
        Check.same("nobody knows", x.promise(0, 7), 0);
        Check.same("no sayings in tales", x.tale(2, 0, 0, 11), 1);
    }

    private static void fault(String text, int kind, int place) {
        DuskTown x = new DuskTown();
        Check.same("town of \"" + text + "\"", Check.tell(x, text), kind);
        Check.same("fault() of \"" + text + "\"", x.fault(), place);
        Check.same("refused by \"" + text + "\"", x.count(7), 1);
    }

    private static void promise4Faults() {
        fault("x", 1, 0);
        fault(";", 1, 0);
        fault(" 7;", 1, 1);
        fault("1234;", 1, 0);
        fault("Meet 0 1 at 0;", 1, 0);
        fault("peoples 3;", 1, 0);
        fault("people", 1, 6);
        fault("people ", 1, 7);
        fault("people 3", 1, 8);
        fault("people 3 4;", 1, 9);
        fault("people three;", 1, 7);
        fault("people\t3;", 1, 6);
        fault("people -3;", 1, 7);
        fault("people 3;;", 1, 9);
        fault("people 3;\r", 1, 9);
        fault("meet 0 1;", 1, 8);
        fault("meet 0 1 2 at 3;", 1, 9);
        fault("meet 0 1 at 3", 1, 13);
        fault("meet 0 1 at 3 1234;", 1, 14);
        fault("promise 0 1 at;", 1, 14);
        fault("promise 0 1 at 0 day 3;", 1, 17);
        fault("promise 0 1 day at 0;", 1, 16);
        fault("promise 0 1 at 0 on;", 1, 19);
        fault("promise 0 1 at 0;promise 0 1 at 1 on 0 day;", 1, 39);
        fault("people 1;", 2, 7);
        fault("people 7;", 2, 7);
        fault("people 0003;", 2, 7);
        fault("price 0 100;", 2, 8);
        fault("price 0 0000;", 2, 8);
        fault("price 0000 1;", 2, 6);
        fault("meet 0 1 at 12;", 2, 12);
        fault("meet 0 1111 at 2;", 2, 7);
        fault("promise 0 1 day 100 at 1;", 2, 16);
        fault("promise 0 1 at 12;", 2, 15);
        fault("promise 0 1 at 1 on 0000;", 2, 20);
        fault("price 2 1;", 3, 6);
        fault("price 999 1;", 3, 6);
        fault("meet 2 1 at 0;", 3, 5);
        fault("meet 0 2 at 0;", 3, 7);
        fault("promise 2 1 at 0;", 3, 8);
        fault("promise 0 1 at 0 on 0;", 3, 20);
        fault("promise 0 1 at 0;promise 0 1 at 0 on 1;", 3, 37);
        fault("promise 0 1 at 0;promise 0 1 at 0 on 0 1;", 3, 39);
        fault("meet 0 0 at 0;", 4, 7);
        fault("meet 1 001 at 0;", 4, 7);
        fault("promise 1 1 at 0;", 4, 10);
        fault("promise 0 1 at 0;promise 0 1 at 0 on 0 0;", 4, 39);
        fault("people 3;people 3;", 5, 9);
        fault("price 0 1;people 3;", 5, 10);
        fault("meet 0 1 at 0;people", 5, 14);
    }

    private static void promise4Limits() {
        DuskTown x = new DuskTown();
        String twelve = "meet 0 1 at 0;".repeat(12);
        Check.same("twelve meetings", Check.tell(x, twelve), 0);
        Check.same("their count", x.count(1), 12);
        fault(twelve + "meet 5", 2, twelve.length());
        String promises = "promise 0 1 at 0;".repeat(11);
        Check.same("twelve promises", Check.tell(x, promises + "promise 0 1 at 0 on 10 9 8 7 6 5 4 3 2 1 0;"), 0);
        Check.same("their count", x.count(2), 12);
        Check.same("all that the last leans on", x.promise(11, 4), 2047);
        fault(promises + "promise 0 1 at 0;promise", 2, 17 * 12);
        fault(promises + "promise 0 1 at 0 on 10 9 8 7 6 5 4 3 2 1 0 5;", 4, 17 * 11 + 20 + 23);
        String full = twelve + promises + " ".repeat(700 - twelve.length() - promises.length() - 10) + "price 1 3;";
        Check.same("700 bytes", full.length(), 700);
        Check.same("a full tape", Check.tell(x, full), 0);
        Check.same("its last line", x.price(1), 3);
    }

    private static void promise5Count() {
        DuskTown x = Check.town(SMALL);
        Check.feedText(x, "half a tape");
        x.say(DuskTown.NONE, 1, 0, 0);
        x.say(DuskTown.NONE, 1, 2, 0);
        x.days(2);
        int[] due = {3, 2, 2, 1, 2, 2, 20, 0, 1};
        for (int what = 0; what < due.length; what++) {
            Check.same("count(" + what + ")", x.count(what), due[what]);
        }
        Check.missing("count(-1)", () -> x.count(-1));
        Check.missing("count(9)", () -> x.count(9));
        Check.missing("count(least)", () -> x.count(Integer.MIN_VALUE));
    }

    private static void promise6Price() {
        DuskTown x = Check.town("people 4;price 3 0;price 1 99;");
        int[] due = {1, 99, 1, 0};
        for (int person = 0; person < due.length; person++) {
            Check.same("price(" + person + ")", x.price(person), due[person]);
        }
        Check.missing("price(-1)", () -> x.price(-1));
        Check.missing("price(4)", () -> x.price(4));
        Check.missing("price(most)", () -> x.price(Integer.MAX_VALUE));
        Check.tell(x, "people 4;");
        Check.same("prices are told anew", x.price(1), 1);
    }

    private static void promise7Meeting() {
        DuskTown x = Check.town("people 4;meet 3 1 at 11;meet 0 2 at 0;");
        int[][] due = {{3, 1, 11}, {0, 2, 0}};
        for (int meeting = 0; meeting < 2; meeting++) {
            for (int what = 0; what < 3; what++) {
                Check.same("meeting(" + meeting + ", " + what + ")", x.meeting(meeting, what), due[meeting][what]);
            }
        }
        Check.missing("meeting(-1, 0)", () -> x.meeting(-1, 0));
        Check.missing("meeting(2, 0)", () -> x.meeting(2, 0));
        Check.missing("meeting(0, -1)", () -> x.meeting(0, -1));
        Check.missing("meeting(0, 3)", () -> x.meeting(0, 3));
    }

    private static void promise8Promise() {
        DuskTown x = Check.town("people 4;promise 3 1 at 11;promise 0 2 day 99 at 4;promise 1 0 day 2 at 0 on 1 0;");
        int[][] due = {{3, 1, 0, 11, 0, 0, -1, 0}, {0, 2, 99, 4, 0, 0, -1, 0}, {1, 0, 2, 0, 3, 0, -1, 0}};
        for (int promise = 0; promise < 3; promise++) {
            for (int what = 0; what < 8; what++) {
                Check.same("promise(" + promise + ", " + what + ")", x.promise(promise, what), due[promise][what]);
            }
        }
        Check.same("days(1)", x.days(1), 1);
        Check.same("it is undone", x.promise(0, 5), 2);
        Check.same("on day 0", x.promise(0, 6), 0);
        Check.same("those who heard it that day know it", x.promise(0, 7), 10);
        Check.same("days(1) again", x.days(1), 0);
        Check.same("nobody knows it on the next day", x.promise(0, 7), 0);
        Check.same("still undone on day 0", x.promise(0, 6), 0);
        Check.missing("promise(-1, 0)", () -> x.promise(-1, 0));
        Check.missing("promise(3, 0)", () -> x.promise(3, 0));
        Check.missing("promise(0, -1)", () -> x.promise(0, -1));
        Check.missing("promise(0, 8)", () -> x.promise(0, 8));
    }
}
