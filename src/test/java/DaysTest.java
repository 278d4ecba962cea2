/** Promises 9 to 11: sayings, and how days go by with them. */
public final class DaysTest {
    private static final int EACH = DuskTown.NONE;

    public static void main(String[] args) {
        promise9Say();
        promise10Unsay();
        promise11Wrong();
        promise11SaidAgain();
        promise11WhoHas();
        promise11OnceAnHour();
        promise11Order();
        promise11Leaning();
        promise11NotMade();
        promise11DayOfSaying();
        promise11LongTime();
        Check.end("DaysTest");
    }

    private static void promise9Say() {
        DuskTown x = Check.town("meet 0 1 at 0;promise 0 1 at 0;");
        Check.missing("say at no meeting", () -> x.say(0, 1, 0, 0));
        Check.missing("say at meeting -1", () -> x.say(0, -1, 0, 0));
        Check.missing("say no promise", () -> x.say(0, 0, 0, 1));
        Check.missing("say promise -1", () -> x.say(0, 0, 0, -1));
        Check.missing("no promise is looked at ahead of the day", () -> x.say(200, 0, 9, 1));
        Check.same("these are no refusals", x.count(8), 0);
        Check.same("day -2", x.say(-2, 0, 0, 0), DuskTown.NONE);
        Check.same("day 100", x.say(100, 0, 0, 0), DuskTown.NONE);
        Check.same("who -1", x.say(0, 0, -1, 0), DuskTown.NONE);
        Check.same("who 2", x.say(0, 0, 2, 0), DuskTown.NONE);
        Check.same("refusals", x.count(8), 4);
        for (int i = 1; i <= 60; i++) {
            Check.same("saying " + i, x.say(i % 2 == 0 ? EACH : 99, 0, i % 2, 0), i);
        }
        Check.same("saying 61", x.say(0, 0, 0, 0), DuskTown.NONE);
        Check.missing("the 61st of no promise", () -> x.say(0, 0, 0, 1));
        Check.same("refusals then", x.count(8), 5);
        Check.same("sayings", x.count(3), 60);
    }

    private static void promise10Unsay() {
        DuskTown x = Check.town("people 3;meet 0 1 at 1;meet 0 2 at 1;promise 0 1 at 0;");
        x.say(EACH, 1, 0, 0);
        x.say(EACH, 0, 0, 0);
        Check.same("unsay() of two", x.unsay(), 1);
        Check.same("days with the first one", x.days(1), 0);
        Check.same("who knows it", x.promise(0, 7), 7);
        Check.same("unsay() of one", x.unsay(), 0);
        Check.same("unsay() of none", x.unsay(), DuskTown.NONE);
        Check.same("that is no refusal", x.count(8), 0);
        Check.same("days without", x.days(1), 1);
    }

    private static void promise11Wrong() {
        DuskTown x = Check.town("promise 0 1 at 0;");
        Check.illegal("days(-1)", () -> x.days(-1));
        Check.illegal("days(101)", () -> x.days(101));
        Check.same("days(0)", x.days(0), 0);
        Check.same("the day", x.count(4), 0);
        Check.same("days(100)", x.days(100), 1);
        Check.same("the day then", x.count(4), 100);
        Check.same("undone on day 0", x.promise(0, 6), 0);
    }

    private static void promise11SaidAgain() {
        // On the day it is made both have heard it, so that one says it to the other is not enough.
        DuskTown x = Check.town("price 0 7;meet 0 1 at 3;promise 0 1 at 3;");
        x.say(EACH, 0, 0, 0);
        Check.same("days(1) between both", x.days(1), 1);
        Check.same("it was said and paid", x.count(5), 7);
        // On the next day the one who knows it may say it to the other again.
        DuskTown y = Check.town("people 3;meet 0 1 at 3;meet 0 2 at 4;promise 0 1 at 3;");
        y.say(0, 1, 0, 0);
        y.say(1, 0, 1, 0);
        Check.same("day 0, to a third", y.days(1), 0);
        Check.same("day 1, by 1 to 0", y.days(1), 0);
        Check.same("who knows it", y.promise(0, 7), 3);
        Check.same("day 2, nothing", y.days(1), 1);
        Check.same("undone on day 2", y.promise(0, 6), 2);
    }

    private static void promise11WhoHas() {
        // 2 does not have it at hour 1, and has it at hour 3; before it is made nobody has it.
        DuskTown x = Check.town("people 4;meet 2 3 at 1;meet 1 2 at 2;meet 2 3 at 3;meet 0 1 at 0;promise 0 1 at 2;");
        x.say(EACH, 0, 0, 0);
        x.say(EACH, 1, 0, 0);
        x.say(EACH, 2, 0, 0);
        x.say(EACH, 3, 0, 0);
        Check.same("days(1)", x.days(1), 0);
        Check.same("said at two meetings", x.count(5), 2);
        Check.same("all know it", x.promise(0, 7), 15);
        Check.same("the next day", x.days(1), 0);
        Check.same("said at all meetings", x.count(5), 6);
        Check.same("all know it still", x.promise(0, 7), 15);
    }

    private static void promise11OnceAnHour() {
        // 0 is at both meetings of hour 5: what he can't say first does not count as said.
        DuskTown x = Check.town("people 3;meet 0 1 at 5;meet 0 2 at 5;promise 0 1 at 0;promise 1 2 at 9;");
        x.say(EACH, 0, 0, 1);
        x.say(EACH, 1, 0, 0);
        x.say(EACH, 1, 0, 0);
        x.say(EACH, 1, 1, 0);
        Check.same("days(1)", x.days(1), 1);
        Check.same("0 said it once, then 2 did", x.count(5), 2);
        Check.same("the one made at hour 9 fell", x.promise(1, 5), 2);
        DuskTown y = Check.town("people 3;meet 0 1 at 5;meet 0 2 at 5;promise 0 1 at 0;");
        y.say(EACH, 0, 0, 0);
        y.say(EACH, 1, 0, 0);
        Check.same("he has spoken already", y.days(1), 1);
        Check.same("once", y.count(5), 1);
    }

    private static void promise11Order() {
        // Meetings of an hour go by number, whatever the order of the sayings.
        DuskTown x = Check.town("people 4;meet 1 2 at 5;meet 2 3 at 5;promise 0 1 at 5;");
        x.say(EACH, 1, 0, 0);
        x.say(EACH, 0, 0, 0);
        Check.same("days(1)", x.days(1), 0);
        Check.same("all know it", x.promise(0, 7), 15);
        DuskTown y = Check.town("people 4;meet 2 3 at 5;meet 1 2 at 5;promise 0 1 at 5;");
        y.say(EACH, 0, 0, 0);
        y.say(EACH, 1, 0, 0);
        Check.same("days(1) the other way", y.days(1), 0);
        Check.same("3 has not heard it", y.promise(0, 7), 7);
        // At one meeting the sayings go as they were told.
        DuskTown z = Check.town("people 3;meet 0 2 at 5;promise 0 1 at 0;promise 0 1 at 0;");
        z.say(EACH, 0, 0, 1);
        z.say(EACH, 0, 0, 0);
        Check.same("only the one told first", z.days(1), 1);
        Check.same("the second stands", z.promise(1, 5), 1);
    }

    private static void promise11Leaning() {
        DuskTown x = Check.town("people 3;meet 0 2 at 1;meet 0 2 at 2;meet 0 2 at 3;"
            + "promise 0 1 at 0;promise 0 1 at 0 on 0;promise 0 1 at 0 on 1;promise 0 1 day 1 at 0 on 0;");
        x.say(0, 0, 0, 0);
        x.say(EACH, 1, 0, 1);
        x.say(EACH, 2, 0, 2);
        Check.same("day 0", x.days(1), 0);
        Check.same("day 1: what falls, and all that leans on it", x.days(1), 4);
        for (int promise = 0; promise < 4; promise++) {
            Check.same("promise " + promise + " is undone on", x.promise(promise, 6), 1);
        }
        Check.same("what was said again is known still", x.promise(2, 7), 5);
        Check.same("day 2", x.days(1), 0);
    }

    private static void promise11NotMade() {
        // What leans on one that is not made yet, or that is undone, is undone when it would be made.
        DuskTown x = Check.town("people 3;meet 0 2 at 4;promise 0 1 at 5;promise 0 1 at 4 on 0;promise 0 1 at 5 on 0;"
            + "promise 0 1 day 3 at 0 on 0;promise 0 1 day 3 at 1 on 3;");
        x.say(EACH, 0, 0, 1);
        Check.same("day 0", x.days(1), 3);
        Check.same("nothing was said", x.count(5), 0);
        Check.same("nobody heard it", x.promise(1, 7), 0);
        Check.same("made in the hour of what it leans on", x.promise(2, 7), 3);
        Check.same("day 1 and 2", x.days(2), 0);
        Check.same("not made yet", x.promise(3, 5), 0);
        Check.same("day 3", x.days(1), 2);
        Check.same("undone at once", x.promise(3, 6), 3);
        Check.same("and what leans on it", x.promise(4, 6), 3);
    }

    private static void promise11DayOfSaying() {
        DuskTown x = Check.town("people 3;meet 0 2 at 4;promise 0 1 day 98 at 0;");
        x.say(98, 0, 0, 0);
        x.say(99, 0, 0, 0);
        Check.same("days 0 to 97", x.days(98), 0);
        Check.same("not made yet", x.promise(0, 5), 0);
        Check.same("days 98, 99", x.days(2), 0);
        Check.same("it stands", x.promise(0, 5), 1);
        Check.same("day 100", x.days(1), 1);
        Check.same("undone on", x.promise(0, 6), 100);
    }

    private static void promise11LongTime() {
        DuskTown x = Check.town("people 3;price 0 99;meet 0 2 at 4;promise 0 1 at 0;");
        x.say(EACH, 0, 0, 0);
        for (int i = 0; i < 480; i++) {
            Check.same("days(100)", x.days(100), 0);
        }
        Check.same("the day", x.count(4), 48000);
        Check.same("what was paid", x.count(5), 48000 * 99);
    }
}
