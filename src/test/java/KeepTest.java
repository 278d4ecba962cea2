/** Promises 12 to 16: the cheapest and the fewest sayings, silence, pairs. */
public final class KeepTest {
    private static final int EACH = DuskTown.NONE;

    public static void main(String[] args) {
        promise12Wrong();
        promise12WhatCounts();
        promise12CheaperLater();
        promise12Chains();
        promise12Silent();
        promise12FirstRow();
        promise13Kept();
        promise14Silence();
        promise15Stands();
        promise16Pairs();
        Check.end("KeepTest");
    }

    private static void row(String what, DuskTown x, int... due) {
        for (int meeting = 0; meeting < due.length; meeting++) {
            Check.same(what + ": kept(" + meeting + ")", x.kept(meeting), due[meeting]);
        }
    }

    /** A town of three in which the first promise stands on day 1, known by all. */
    private static DuskTown three(String prices) {
        DuskTown x = Check.town("people 3;" + prices + "meet 0 1 at 2;meet 1 2 at 4;promise 0 1 at 0;promise 0 1 day 9 at 0;");
        x.say(0, 0, 0, 0);
        x.say(0, 1, 0, 0);
        Check.same("day 0", x.days(1), 0);
        Check.same("who knows it", x.promise(0, 7), 7);
        return x;
    }

    private static void promise12Wrong() {
        DuskTown x = three("");
        Check.missing("keep of promise -1", () -> x.keep(-1, 1, 0, 0));
        Check.missing("keep of promise 2", () -> x.keep(2, 1, 0, 0));
        Check.missing("keep of one not made yet", () -> x.keep(1, 1, 0, 0));
        Check.missing("another what", () -> x.keep(0, 1, 0, 2));
        Check.missing("what -1", () -> x.keep(0, 1, 0, -1));
        Check.missing("another what ahead of days and silent", () -> x.keep(0, 0, 99, 2));
        Check.missing("not standing ahead of days", () -> x.keep(1, 0, 0, 0));
        Check.illegal("0 days", () -> x.keep(0, 0, 0, 0));
        Check.illegal("401 days", () -> x.keep(0, 401, 0, 0));
        Check.illegal("silent 8", () -> x.keep(0, 1, 8, 0));
        Check.illegal("silent -1", () -> x.keep(0, 1, -1, 0));
        Check.missing("nothing is kept by these", () -> x.kept(0));
        Check.same("400 days", x.keep(0, 400, 0, 1), 400);
        Check.same("nothing has changed", x.count(4), 1);
        x.days(1);
        Check.missing("keep of one undone", () -> x.keep(0, 1, 0, 0));
    }

    private static void promise12WhatCounts() {
        DuskTown x = three("price 0 5;price 1 2;price 2 3;");
        Check.same("sum of prices", x.keep(0, 1, 0, 0), 2);
        row("at the later meeting, the row being first", x, 0, 1);
        Check.same("fewest sayings", x.keep(0, 1, 0, 1), 1);
        row("likewise", x, 0, 1);
        Check.same("sum of 7 days", x.keep(0, 7, 0, 0), 14);
        Check.same("prices of nothing", three("price 1 0;").keep(0, 400, 0, 0), 0);
    }

    private static void promise12CheaperLater() {
        // 0 alone can say it first; by paying him once, 2 is told by 1, and says it for nothing.
        String text = "people 4;price 0 9;price 1 20;price 2 0;meet 0 1 at 1;meet 1 2 at 2;meet 2 3 at 0;meet 0 3 at 3;"
            + "promise 0 3 at 2;";
        DuskTown x = Check.town(text);
        x.say(0, 3, 0, 0);
        x.say(0, 3, 1, 0);
        Check.same("day 0 of a promise heard by both only", x.days(1), 1);
        DuskTown y = Check.town("people 4;price 0 9;price 1 20;price 2 0;price 3 99;meet 0 1 at 1;meet 1 2 at 2;"
            + "meet 2 3 at 0;meet 0 3 at 3;promise 1 2 at 0;promise 0 3 at 0;");
        y.say(0, 0, 0, 1);
        y.say(1, 3, 0, 1);
        y.say(0, 1, 1, 0);
        Check.same("days 0, 1", y.days(2), 1);
        Check.same("0 and 3 know it", y.promise(1, 7), 9);
        Check.same("one day", y.keep(1, 1, 0, 0), 9);
        row("one day", y, 0, 0, 0, 1);
        Check.same("four days", y.keep(1, 4, 0, 0), 29);
        row("four days: 0 tells 1, who tells 2 on the next day, the row being first", y, 1, 0, 0, 0);
        Check.same("three days", y.keep(1, 3, 0, 0), 27);
        row("three days: it is not worth it", y, 0, 0, 0, 1);
        Check.same("400 days", y.keep(1, 400, 0, 0), 29);
        Check.same("the fewest", y.keep(1, 400, 0, 1), 400);
        row("the fewest", y, 0, 0, 0, 1);
    }

    private static void promise12Chains() {
        // A chain against the hours takes a day for each step.
        DuskTown x = Check.town("people 4;price 0 3;price 1 3;price 2 1;price 3 0;meet 2 3 at 1;meet 1 2 at 2;meet 0 1 at 3;"
            + "meet 0 3 at 0;promise 0 3 at 2;");
        x.say(0, 2, 0, 0);
        x.say(1, 2, 0, 0);
        Check.same("days 0, 1", x.days(2), 0);
        Check.same("0 and 1 know it", x.promise(0, 7), 3);
        Check.same("1 day", x.keep(0, 1, 0, 0), 3);
        Check.same("2 days", x.keep(0, 2, 0, 0), 3);
        row("0 tells 3, who says it for nothing then", x, 0, 0, 0, 1);
        Check.same("3 days, 0 silent", x.keep(0, 3, 1, 0), 4);
        row("1 tells 2, who tells 3 on the next day", x, 0, 1, 0, 0);
        Check.same("9 days, 0 and 2 silent", x.keep(0, 9, 5, 0), 27);
        row("1 says it each day", x, 0, 0, 2, 0);
    }

    private static void promise12Silent() {
        DuskTown x = three("price 0 5;price 1 2;price 2 3;");
        Check.same("1 silent", x.keep(0, 3, 2, 0), 9);
        row("1 silent", x, 0, 2);
        Check.same("1 and 2 silent", x.keep(0, 3, 6, 0), 15);
        row("1 and 2 silent", x, 1, 0);
        Check.same("all silent", x.keep(0, 1, 7, 0), DuskTown.NONE);
        row("the row kept before stays", x, 1, 0);
    }

    private static void promise12FirstRow() {
        // In the order of hours, not of numbers: the meeting at hour 1 comes first in the row.
        DuskTown x = Check.town("people 3;meet 0 1 at 4;meet 0 1 at 1;meet 0 2 at 4;promise 0 1 at 0;");
        x.say(0, 2, 0, 0);
        Check.same("day 0", x.days(1), 0);
        Check.same("one saying", x.keep(0, 1, 0, 0), 1);
        row("at the last place of the day, by the first one", x, 0, 0, 1);
        Check.same("one saying, 0 silent", x.keep(0, 1, 1, 1), 1);
        row("by 2, who knows it too", x, 0, 0, 2);
        Check.same("one saying, 0 and 2 silent", x.keep(0, 1, 5, 1), 1);
        row("by 1 at hour 4", x, 2, 0, 0);
        // A free saying that is not needed is not in the row.
        DuskTown y = three("price 0 0;price 1 0;price 2 0;");
        Check.same("for nothing", y.keep(0, 5, 0, 0), 0);
        row("for nothing", y, 0, 1);
    }

    private static void promise13Kept() {
        DuskTown x = three("");
        Check.missing("kept(0) ahead of keep", () -> x.kept(0));
        x.keep(0, 1, 0, 0);
        row("kept", x, 0, 1);
        Check.missing("kept(-1)", () -> x.kept(-1));
        Check.missing("kept(2)", () -> x.kept(2));
        x.image();
        x.keep(0, 1, 6, 0);
        x.restore();
        row("an image keeps no row", x, 1, 0);
        x.days(5);
        row("days leave it", x, 1, 0);
    }

    private static void promise14Silence() {
        DuskTown x = three("");
        Check.same("all know it and meet", x.silence(0, 1), 7);
        Check.same("for 60 days", x.silence(0, 60), 7);
        Check.illegal("0 days", () -> x.silence(0, 0));
        Check.illegal("61 days", () -> x.silence(0, 61));
        Check.missing("not made yet", () -> x.silence(1, 1));
        Check.missing("not standing ahead of days", () -> x.silence(1, 0));
        Check.missing("promise 2", () -> x.silence(2, 1));
        Check.missing("promise -1", () -> x.silence(-1, 1));
        x.unsay();
        x.unsay();
        x.say(1, 1, 1, 0);
        x.days(1);
        Check.same("1 and 2 know it", x.silence(0, 5), 6);
        // Who knows it and meets nobody need not be silent.
        DuskTown y = Check.town("people 4;meet 0 2 at 3;promise 0 1 at 0;");
        y.say(0, 0, 0, 0);
        y.days(1);
        Check.same("0, 1, 2 know it", y.promise(0, 7), 7);
        Check.same("0 and 2 must be silent", y.silence(0, 3), 5);
    }

    private static void promise15Stands() {
        DuskTown x = three("");
        Check.same("nobody silent", x.stands(0, 0), 60);
        Check.same("one left", x.stands(0, 6), 60);
        Check.same("all silent", x.stands(0, 7), 0);
        Check.illegal("silent 8", () -> x.stands(0, 8));
        Check.illegal("silent -1", () -> x.stands(0, -1));
        Check.missing("not made yet", () -> x.stands(1, 0));
        Check.missing("not standing ahead of silent", () -> x.stands(1, 8));
        Check.missing("promise 2", () -> x.stands(2, 0));
        x.unsay();
        x.unsay();
        x.say(1, 1, 1, 0);
        x.days(1);
        Check.same("1 and 2 know it: both silent", x.stands(0, 6), 0);
        Check.same("1 and 2 know it: 0 silent", x.stands(0, 1), 60);
    }

    private static void promise16Pairs() {
        DuskTown x = three("");
        Check.same("all pairs", x.pairs(0, 60), 3);
        Check.illegal("0 days", () -> x.pairs(0, 0));
        Check.illegal("61 days", () -> x.pairs(0, 61));
        Check.missing("not made yet", () -> x.pairs(1, 1));
        Check.missing("not standing ahead of days", () -> x.pairs(1, 0));
        Check.missing("promise 2", () -> x.pairs(2, 1));
        DuskTown y = Check.town("people 6;meet 0 2 at 3;promise 0 1 at 0;");
        y.say(0, 0, 0, 0);
        y.days(1);
        Check.same("those with 0 or 2 in them", y.pairs(0, 1), 9);
    }
}
