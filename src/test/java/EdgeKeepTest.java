/**
 * Promises 12 to 16 and the Terms of keeping: for each sentence that names a boundary the last
 * case on this side of it and the first one on the other.
 */
public final class EdgeKeepTest {
    private static final int EACH = DuskTown.NONE;
    private static final int[] FAR_AWAY = {Integer.MIN_VALUE, Integer.MAX_VALUE};

    public static void main(String[] args) {
        standsNow();
        standsBehindDay99();
        doesNotStandAheadOfAll();
        whatIsAskedAheadOfDays();
        aloneLeaningOnNothing();
        sayingsToldCountForNothing();
        daysOneTo400();
        silentBitsOfPeople();
        silentMayHear();
        cantBe();
        knowersWhoMeetNobody();
        meetingsOfTheTownBefore();
        sumOfManySteps();
        leastSumOfPrices();
        fewestSayings();
        eachOnceAnHour();
        ofOneWhoHasItThen();
        saidAgainEachDay();
        laidOutForItsFirstDay();
        rowInTheOrderOfHours();
        rowNothingFirstSecond();
        rowAtEachPlace();
        rowThatIsKept();
        noneIsKept();
        refusedKeepsLeaveTheRow();
        silenceOneToSixtyDays();
        silenceFewestAndLeast();
        standsNoughtToSixty();
        pairsOneToSixtyDays();
        pairsHowMany();
        askingChangesNothing();
        Check.end("EdgeKeepTest");
    }

    private static void row(String what, DuskTown x, int... due) {
        for (int meeting = 0; meeting < due.length; meeting++) {
            Check.same(what + ": kept(" + meeting + ")", x.kept(meeting), due[meeting]);
        }
    }

    /** Day 1 of a town in which promise 0 stands, said on day 0 at these meetings by these. */
    private static DuskTown dayOne(String text, int know, int... meetingsAndWho) {
        DuskTown x = Check.town(text);
        for (int i = 0; i < meetingsAndWho.length; i += 2) {
            x.say(0, meetingsAndWho[i], meetingsAndWho[i + 1], 0);
        }
        x.days(1);
        Check.same("it stands on day 1: " + text, x.promise(0, 5), 1);
        Check.same("who knows it on day 1: " + text, x.promise(0, 7), know);
        return x;
    }

    private static DuskTown three() {
        return dayOne("people 3;price 0 5;price 1 2;price 2 3;meet 0 1 at 2;meet 1 2 at 4;promise 0 1 at 0;", 7, 1, 0);
    }

    // "KEEPING a PROMISE that stands NOW (made ahead of NOW)"; keep: "also it doesn't stand"
    private static void standsNow() {
        DuskTown x = Check.town("people 3;meet 0 2 at 3;promise 0 1 day 1 at 0;promise 0 1 day 1 at 0 on 0;promise 0 1 day 2 at 0 on 1;");
        x.say(1, 0, 0, 0);
        for (int day = 0; day <= 1; day++) {
            Check.missing("keep, not made yet on day " + day, () -> x.keep(0, 1, 0, 0));
            Check.missing("silence, not made yet on day " + day, () -> x.silence(0, 1));
            Check.missing("stands, not made yet on day " + day, () -> x.stands(0, 0));
            Check.missing("pairs, not made yet on day " + day, () -> x.pairs(0, 1));
            x.days(1);
        }
        Check.same("keep on day 2", x.keep(0, 1, 0, 0), 1);
        Check.same("silence on day 2", x.silence(0, 1), 5);
        Check.same("stands on day 2", x.stands(0, 0), 60);
        Check.same("pairs on day 2", x.pairs(0, 1), 3);
        x.days(1);
        for (int promise = 0; promise <= 2; promise++) {
            int undone = promise;
            Check.same("undone", x.promise(undone, 5), 2);
            Check.missing("keep, undone: " + undone, () -> x.keep(undone, 1, 0, 0));
            Check.missing("silence, undone: " + undone, () -> x.silence(undone, 1));
            Check.missing("stands, undone: " + undone, () -> x.stands(undone, 0));
            Check.missing("pairs, undone: " + undone, () -> x.pairs(undone, 1));
        }
        row("the row of day 2 is kept", x, 1);
    }

    // NOW may be behind the last DAY that can be told
    private static void standsBehindDay99() {
        DuskTown x = Check.town("people 3;meet 0 2 at 3;promise 0 1 day 99 at 11;promise 0 1 day 99 at 2;");
        x.say(EACH, 0, 0, 1);
        Check.same("days 0 to 98", x.days(99), 0);
        Check.missing("not made yet", () -> x.keep(1, 400, 0, 0));
        Check.same("day 99", x.days(1), 1);
        Check.missing("undone on the last day", () -> x.keep(0, 400, 0, 0));
        Check.same("on day 100", x.keep(1, 400, 0, 0), 400);
        Check.same("to day 200", x.days(100), 0);
        Check.same("on day 200", x.keep(1, 400, 1, 1), 400);
        row("on day 200", x, 2);
        Check.same("silence on day 200", x.silence(1, 60), 5);
    }

    // "NoSuchElementException .. IllegalArgumentException (behind that)"
    private static void doesNotStandAheadOfAll() {
        DuskTown x = Check.town("people 3;meet 0 2 at 3;promise 0 1 at 0;promise 0 1 day 9 at 0;");
        x.say(0, 0, 0, 0);
        x.days(1);
        for (int promise : new int[] {-1, 1, 2, Integer.MIN_VALUE, Integer.MAX_VALUE}) {
            for (int days : new int[] {0, 1, 401}) {
                Check.missing("keep(" + promise + ", " + days + ", 8, 2)", () -> x.keep(promise, days, 8, 2));
                Check.missing("keep(" + promise + ", " + days + ", 8, 0)", () -> x.keep(promise, days, 8, 0));
                Check.missing("keep(" + promise + ", " + days + ", 0, 0)", () -> x.keep(promise, days, 0, 0));
                Check.missing("silence(" + promise + ", " + days + ")", () -> x.silence(promise, days));
                Check.missing("pairs(" + promise + ", " + days + ")", () -> x.pairs(promise, days));
            }
            Check.missing("stands(" + promise + ", 0)", () -> x.stands(promise, 0));
            Check.missing("stands(" + promise + ", 8)", () -> x.stands(promise, 8));
            Check.missing("stands(" + promise + ", -1)", () -> x.stands(promise, -1));
        }
    }

    // keep: "NoSuchElementException: .. another what. IllegalArgumentException (behind that)"
    private static void whatIsAskedAheadOfDays() {
        DuskTown x = three();
        for (int what : new int[] {-1, 2, Integer.MIN_VALUE, Integer.MAX_VALUE}) {
            Check.missing("what " + what, () -> x.keep(0, 1, 0, what));
            Check.missing("what " + what + ", 0 days", () -> x.keep(0, 0, 0, what));
            Check.missing("what " + what + ", 401 days", () -> x.keep(0, 401, 0, what));
            Check.missing("what " + what + ", silent 8", () -> x.keep(0, 1, 8, what));
        }
        Check.missing("none is kept", () -> x.kept(0));
        Check.same("what 0", x.keep(0, 1, 0, 0), 2);
        Check.same("what 1", x.keep(0, 1, 0, 1), 1);
    }

    // "alone (leaning on nothing"
    private static void aloneLeaningOnNothing() {
        DuskTown x = Check.town("people 3;meet 0 2 at 3;meet 0 2 at 4;promise 0 1 at 0;promise 0 1 at 0 on 0;");
        x.say(0, 0, 0, 0);
        x.say(0, 1, 0, 1);
        Check.same("day 0", x.days(1), 0);
        Check.same("of it alone, not of what it leans on", x.keep(1, 400, 0, 1), 400);
        Check.same("stands", x.stands(1, 0), 60);
        Check.same("but in the town both fall", x.days(1), 2);
    }

    // "SAYINGS told count for nothing)"
    private static void sayingsToldCountForNothing() {
        DuskTown x = three();
        int due = x.keep(0, 3, 0, 0);
        for (int i = 0; i < 20; i++) {
            x.say(EACH, i % 2, i / 2 % 2, 0);
        }
        Check.same("with sayings told", x.keep(0, 3, 0, 0), due);
        row("with sayings told", x, 0, 1);
        Check.same("silence with sayings told", x.silence(0, 1), 7);
    }

    // "for n DAYS (1 to 400)"
    private static void daysOneTo400() {
        DuskTown x = three();
        for (int days : new int[] {0, -1, 401, FAR_AWAY[0], FAR_AWAY[1]}) {
            Check.illegal(days + " days", () -> x.keep(0, days, 0, 0));
            Check.illegal(days + " days, the fewest", () -> x.keep(0, days, 0, 1));
        }
        Check.missing("none is kept", () -> x.kept(0));
        for (int days : new int[] {1, 2, 399, 400}) {
            Check.same(days + " days", x.keep(0, days, 0, 0), 2 * days);
            Check.same(days + " days, the fewest", x.keep(0, days, 0, 1), days);
            Check.same(days + " days, 1 silent", x.keep(0, days, 2, 0), 3 * days);
        }
        DuskTown dear = dayOne("people 3;price 0 99;price 1 99;price 2 99;meet 0 2 at 0;promise 0 1 at 0;", 7, 0, 0);
        Check.same("the dearest of 400 days", dear.keep(0, 400, 0, 0), 39600);
        DuskTown cheap = dayOne("people 3;price 0 0;price 1 0;price 2 0;meet 0 2 at 0;promise 0 1 at 0;", 7, 0, 0);
        Check.same("the cheapest of 400 days", cheap.keep(0, 400, 0, 0), 0);
    }

    // keep, stands: "SILENT bits of PEOPLE that there aren't"
    private static void silentBitsOfPeople() {
        for (int people = 3; people <= 6; people++) {
            DuskTown x = dayOne("people " + people + ";meet 0 2 at 3;promise 0 1 at 0;", 7, 0, 0);
            int all = (1 << people) - 1;
            for (int silent : new int[] {all + 1, all + 2, -1, ~all, 1 << 30, FAR_AWAY[0], FAR_AWAY[1]}) {
                Check.illegal("keep, " + people + " people, silent " + silent, () -> x.keep(0, 1, silent, 0));
                Check.illegal("stands, " + people + " people, silent " + silent, () -> x.stands(0, silent));
            }
            Check.same("keep, none silent", x.keep(0, 1, 0, 0), 1);
            Check.same("keep, all silent", x.keep(0, 1, all, 0), DuskTown.NONE);
            Check.same("stands, all silent", x.stands(0, all), 0);
            Check.same("keep, the last one silent", x.keep(0, 1, 1 << people - 1, 0), 1);
            Check.same("stands, the last one silent", x.stands(0, 1 << people - 1), 60);
        }
        DuskTown both = Check.town("meet 0 1 at 3;promise 0 1 at 0;");
        both.days(1);
        Check.missing("between two it can't stand behind its first day", () -> both.keep(0, 1, 3, 0));
    }

    // "SILENT (bits) never say anything": they may be told it
    private static void silentMayHear() {
        DuskTown x = dayOne("people 3;price 0 9;meet 0 2 at 3;promise 0 1 at 0;", 7, 0, 0);
        Check.same("2 silent", x.keep(0, 5, 4, 0), 45);
        row("2 silent: 0 tells him", x, 1);
        Check.same("0 silent", x.keep(0, 5, 1, 0), 5);
        row("0 silent: 2 tells him", x, 2);
        Check.same("all but 0 silent", x.stands(0, 6), 60);
    }

    // keep: "NONE: it can't be."
    private static void cantBe() {
        DuskTown x = dayOne("people 4;meet 0 2 at 3;meet 3 1 at 4;meet 3 2 at 5;promise 0 1 at 0;", 7, 0, 0);
        Check.same("0 and 1 silent: 2 can", x.keep(0, 1, 3, 0), 1);
        Check.same("0, 1, 2 silent: 3 can't", x.keep(0, 1, 7, 0), DuskTown.NONE);
        Check.same("for 400 days neither", x.keep(0, 400, 7, 1), DuskTown.NONE);
        Check.same("stands 0", x.stands(0, 7), 0);
    }

    private static void knowersWhoMeetNobody() {
        // 0 tells 2 on day 1, and the town's meetings are all between 0, 2; 1 knows it and meets nobody
        DuskTown x = dayOne("people 4;meet 0 2 at 3;promise 0 1 at 0;", 7, 0, 0);
        Check.same("1 alone can't", x.keep(0, 1, 5, 0), DuskTown.NONE);
        Check.same("he need not be silent", x.silence(0, 1), 5);
        Check.same("nor can 1 and 3", x.pairs(0, 1), 5);
    }

    // who met somebody in the town before, and meets nobody in this one, can't keep it
    private static void meetingsOfTheTownBefore() {
        for (int alone = 0; alone <= 1; alone++) {
            DuskTown x = Check.town("people 4;meet 0 1 at 1;meet 1 2 at 2;meet 2 3 at 3;");
            int meets = 1 - alone;
            Check.same("a new town", Check.tell(x, "people 4;meet " + meets + " 2 at 3;promise 0 1 at 0;"), 0);
            x.say(0, 0, 0, 0);
            Check.same("day 0", x.days(1), 0);
            Check.same("who knows it", x.promise(0, 7), 7);
            Check.same("all but " + alone + " silent", x.stands(0, 15 & ~(1 << alone)), 0);
            Check.same("all but " + alone + " silent: keep", x.keep(0, 1, 15 & ~(1 << alone), 0), DuskTown.NONE);
            Check.same("silence", x.silence(0, 1), 7 & ~(1 << alone));
            Check.same("pairs", x.pairs(0, 1), 5);
        }
    }

    // each day's first one was told it on the day ahead: a way of many days to the cheapest
    private static void sumOfManySteps() {
        for (int order = 0; order <= 1; order++) {
            boolean along = order == 0;
            // 5 tells 4, he tells 3, and so on to 0, or the numbers the other way around
            String[] names = along ? new String[] {"0", "1", "2", "3", "4", "5"} : new String[] {"5", "4", "3", "2", "1", "0"};
            StringBuilder text = new StringBuilder("people 6;price " + names[0] + " 1;price " + names[5] + " 40;");
            for (int i = 1; i < 5; i++) {
                text.append("price ").append(names[i]).append(" 50;");
            }
            for (int i = 1; i < 6; i++) {
                text.append("meet ").append(names[i]).append(' ').append(names[i - 1]).append(" at ").append(i).append(';');
            }
            text.append("promise ").append(names[5]).append(' ').append(names[0]).append(" at 0;");
            DuskTown x = Check.town(text.toString());
            x.say(0, 4, 0, 0);
            x.say(1, 4, 0, 0);
            Check.same("days 0 and 1", x.days(2), 0);
            Check.same("the last two know it", x.promise(0, 7), along ? 48 : 3);
            // the dear four of the way, and the cheap one from then on; or 40 on each day
            int[] days = {1, 4, 5, 6, 10, 100, 400};
            int[] due = {40, 160, 200, 202, 206, 296, 596};
            for (int i = 0; i < days.length; i++) {
                Check.same("keep for " + days[i] + " days", x.keep(0, days[i], 0, 0), due[i]);
                row("keep for " + days[i] + " days", x, 0, 0, 0, i < 3 ? 0 : 1, i < 3 ? 1 : 0);
            }
        }
    }

    // "the least sum of PRICES"
    private static void leastSumOfPrices() {
        // 0 is dear; 2 is cheap, and can have it only by being told a day ahead
        DuskTown x = dayOne("people 4;price 0 50;price 1 50;price 2 1;price 3 50;meet 2 3 at 0;meet 0 1 at 1;meet 0 2 at 2;"
            + "promise 0 1 at 1;", 7, 2, 0);
        Check.same("2 knows it", x.keep(0, 10, 0, 0), 10);
        row("2 knows it", x, 0, 0, 2);
        x.say(1, 1, 0, 0);
        x.days(1);
        Check.same("0 and 1 know it", x.promise(0, 7), 3);
        Check.same("1 day", x.keep(0, 1, 0, 0), 50);
        row("1 day: the last place by the first one", x, 0, 0, 1);
        Check.same("2 days: 0 tells 2, who is cheaper then", x.keep(0, 2, 0, 0), 51);
        row("2 days", x, 0, 0, 1);
        Check.same("400 days", x.keep(0, 400, 0, 0), 449);
        Check.same("400 days, 2 silent", x.keep(0, 400, 4, 0), 20000);
    }

    // "likewise the fewest sayings"
    private static void fewestSayings() {
        DuskTown x = dayOne("people 3;price 0 0;price 1 99;price 2 0;meet 0 1 at 1;meet 1 2 at 2;promise 0 1 at 0;", 7, 1, 0);
        Check.same("the fewest, whatever they cost", x.keep(0, 7, 0, 1), 7);
        row("the fewest: the last place by the first one, who is dear", x, 0, 1);
        Check.same("the least sum", x.keep(0, 7, 0, 0), 0);
        row("the least sum: the last place by the second one", x, 0, 2);
    }

    // "each PERSON once an HOUR"
    private static void eachOnceAnHour() {
        DuskTown x = dayOne("people 6;price 0 9;price 1 9;price 2 9;price 3 9;price 4 9;price 5 9;meet 0 2 at 5;meet 0 3 at 5;"
            + "meet 0 4 at 5;meet 0 5 at 5;promise 0 1 at 0;", 7, 0, 0);
        Check.same("once a day is enough", x.keep(0, 30, 0, 0), 270);
        row("once a day", x, 0, 0, 0, 1);
        Check.same("1, 2 silent", x.keep(0, 30, 6, 0), 270);
        row("by 0 once", x, 0, 0, 0, 1);
        // 2 could tell 4 in the very hour in which he is told; on the next day it costs the same, and the row is ahead
        DuskTown y = dayOne("people 5;price 0 9;price 1 99;price 2 9;price 4 0;meet 0 2 at 5;meet 0 3 at 5;meet 2 4 at 5;meet 4 3 at 0;"
            + "promise 0 1 at 0;", 11, 1, 0);
        Check.same("by 0, 2, then 4", y.keep(0, 30, 8, 0), 18);
        row("by 0, 2, then 4", y, 1, 0, 0, 0);
    }

    // "each of one who HAS it then"
    private static void ofOneWhoHasItThen() {
        DuskTown x = dayOne("people 4;price 2 0;price 3 9;meet 2 3 at 1;meet 0 2 at 2;promise 0 1 at 0;", 7, 1, 0);
        x.say(1, 1, 0, 0);
        x.say(2, 1, 0, 0);
        x.days(1);
        Check.same("0 and 2 know it", x.promise(0, 7), 5);
        Check.same("2 silent: 3 never has it at all", x.keep(0, 3, 4, 0), 3);
        Check.same("0 silent: 2 has it at hour 1", x.keep(0, 3, 1, 0), 0);
        row("0 silent: the last place", x, 0, 2);
        // 3 does not have it at hour 0, and would cost nothing if he had
        DuskTown y = dayOne("people 4;price 0 5;price 1 5;price 2 5;price 3 0;meet 3 2 at 0;meet 0 3 at 1;promise 0 1 at 1;", 11, 1, 0);
        y.say(1, 1, 0, 0);
        y.days(1);
        Check.same("0 and 3 know it", y.promise(0, 7), 9);
        Check.same("3 has it now", y.keep(0, 2, 0, 0), 0);
        Check.same("3 silent", y.keep(0, 2, 8, 0), 10);
    }

    // "such that it is SAID AGAIN each DAY"
    private static void saidAgainEachDay() {
        DuskTown x = three();
        for (int days = 1; days <= 5; days++) {
            Check.same("a saying for each of " + days, x.keep(0, days, 0, 1), days);
        }
        // it is not enough that somebody says it on the first day
        DuskTown y = dayOne("people 3;price 0 0;price 1 9;price 2 9;meet 0 1 at 2;meet 1 2 at 4;promise 0 1 at 0;", 7, 1, 0);
        Check.same("0 is told it again each day, or says it", y.keep(0, 3, 0, 0), 0);
        row("0 says it", y, 1, 0);
    }

    // "A KEEPING is laid out for its first DAY: by all that is least in the whole, of DAYS the first"
    private static void laidOutForItsFirstDay() {
        String text = "people 4;price 0 9;price 1 20;price 2 0;price 3 99;meet 0 1 at 1;meet 1 2 at 2;meet 2 3 at 0;meet 0 3 at 3;"
            + "promise 0 3 at 0;";
        DuskTown x = dayOne(text, 11, 0, 0);
        x.say(1, 3, 0, 0);
        x.days(1);
        Check.same("0 and 3 know it", x.promise(0, 7), 9);
        Check.same("3 days: 0 says it on each", x.keep(0, 3, 0, 0), 27);
        row("3 days", x, 0, 0, 0, 1);
        Check.same("4 days: less in the whole", x.keep(0, 4, 0, 0), 29);
        row("4 days: the same price on the first day, another row", x, 1, 0, 0, 0);
        Check.same("5 days", x.keep(0, 5, 0, 0), 29);
        row("5 days", x, 1, 0, 0, 0);
    }

    // "the row by MEETINGS (in the order of HOURS, then numbers) .. of like ones the first as a row"
    private static void rowInTheOrderOfHours() {
        DuskTown x = dayOne("people 3;meet 0 2 at 11;meet 0 2 at 0;meet 0 2 at 5;promise 0 1 at 0;", 7, 0, 0);
        x.keep(0, 1, 0, 0);
        row("the last hour, whatever the number", x, 1, 0, 0);
        DuskTown y = dayOne("people 3;meet 0 2 at 5;meet 2 0 at 5;meet 0 2 at 5;promise 0 1 at 0;", 7, 0, 0);
        y.keep(0, 1, 0, 0);
        row("of one hour the last number", y, 0, 0, 1);
        y.keep(0, 1, 1, 0);
        row("0 silent: the second one of it", y, 0, 0, 2);
        StringBuilder twelve = new StringBuilder("people 3;");
        for (int meeting = 0; meeting < 12; meeting++) {
            twelve.append("meet 0 2 at ").append(11 - meeting).append(";");
        }
        DuskTown z = dayOne(twelve + "promise 0 1 at 0;", 7, 0, 0);
        z.keep(0, 400, 0, 0);
        row("of twelve the one at hour 11", z, 1, 0, 0, 0, 0, 0, 0, 0, 0, 0, 0, 0);
        Check.missing("kept(12)", () -> z.kept(12));
    }

    // "0 nothing, 1 the first one says it, 2 the second one"
    private static void rowNothingFirstSecond() {
        DuskTown x = dayOne("people 3;meet 2 0 at 1;promise 0 1 at 0;", 7, 0, 1);
        x.keep(0, 1, 0, 0);
        row("both can: 1 ahead of 2", x, 1);
        x.keep(0, 1, 4, 0);
        row("the second one alone", x, 2);
        // the first place: whoever has the earlier row, 0 there being ahead of 1, and 1 of 2
        DuskTown y = dayOne("people 4;meet 0 2 at 1;meet 1 3 at 1;promise 0 1 at 0;", 7, 0, 0);
        y.keep(0, 1, 1, 0);
        row("0 silent: nothing at the first place", y, 0, 1);
        y.keep(0, 1, 3, 0);
        row("0 and 1 silent", y, 2, 0);
    }

    private static void rowAtEachPlace() {
        for (int place = 0; place < 12; place++) {
            StringBuilder text = new StringBuilder("people 5;");
            int[] first = new int[12];
            int[] second = new int[12];
            for (int meeting = 0; meeting < 12; meeting++) {
                text.append(meeting == place ? "meet 0 2" : "meet 3 4").append(" at ").append(meeting).append(";");
                first[meeting] = meeting == place ? 1 : 0;
                second[meeting] = meeting == place ? 2 : 0;
            }
            DuskTown x = dayOne(text + "promise 0 1 at 0;", 7, place, 0);
            Check.same("the first one", x.keep(0, 1, 0, 0), 1);
            row("the first one at place " + place, x, first);
            Check.same("the second one", x.keep(0, 400, 1, 0), 400);
            row("the second one at place " + place, x, second);
        }
    }

    // keep: "The first DAY's row of it is kept."
    private static void rowThatIsKept() {
        DuskTown x = three();
        x.keep(0, 1, 0, 0);
        row("the first", x, 0, 1);
        x.keep(0, 1, 6, 1);
        row("the second in place of it", x, 1, 0);
        x.keep(0, 400, 2, 1);
        row("the third in place of both", x, 0, 2);
        x.unsay();
        x.say(EACH, 0, 0, 0);
        x.days(9);
        row("it is kept though the promise falls", x, 0, 2);
    }

    // kept: "NoSuchElementException: also none is kept."
    private static void noneIsKept() {
        DuskTown x = three();
        for (int meeting = -1; meeting <= 2; meeting++) {
            int at = meeting;
            Check.missing("kept(" + at + ") ahead of keep", () -> x.kept(at));
        }
        Check.same("silence keeps none", x.silence(0, 60), 7);
        Check.same("stands keeps none", x.stands(0, 0), 60);
        Check.same("pairs keeps none", x.pairs(0, 60), 3);
        Check.same("what can't be keeps none", x.keep(0, 1, 7, 0), DuskTown.NONE);
        Check.missing("kept(0)", () -> x.kept(0));
        x.keep(0, 1, 0, 0);
        row("one is kept", x, 0, 1);
        for (int meeting : new int[] {-1, 2, FAR_AWAY[0], FAR_AWAY[1]}) {
            Check.missing("kept(" + meeting + ")", () -> x.kept(meeting));
        }
        Check.tell(x, "people 1;");
        row("a fault leaves it", x, 0, 1);
        Check.tell(x, "people 3;meet 0 1 at 2;meet 1 2 at 4;promise 0 1 at 0;");
        Check.missing("a new town has none", () -> x.kept(0));
    }

    private static void refusedKeepsLeaveTheRow() {
        DuskTown x = three();
        x.keep(0, 1, 2, 0);
        row("2 says it", x, 0, 2);
        Check.same("what can't be", x.keep(0, 1, 7, 0), DuskTown.NONE);
        row("behind what can't be", x, 0, 2);
        Check.illegal("0 days", () -> x.keep(0, 0, 0, 0));
        Check.illegal("silent 8", () -> x.keep(0, 1, 8, 0));
        Check.missing("what 2", () -> x.keep(0, 1, 0, 2));
        Check.missing("promise 1", () -> x.keep(1, 1, 0, 0));
        row("behind refused ones", x, 0, 2);
    }

    // "make that it can't be KEPT for n DAYS (1 to 60)"; silence: "IllegalArgumentException (behind that): n."
    private static void silenceOneToSixtyDays() {
        DuskTown x = three();
        for (int days : new int[] {0, -1, 61, 400, FAR_AWAY[0], FAR_AWAY[1]}) {
            Check.illegal("silence of " + days, () -> x.silence(0, days));
        }
        for (int days : new int[] {1, 2, 59, 60}) {
            Check.same("silence of " + days, x.silence(0, days), 7);
        }
    }

    // "SILENCE: the fewest PEOPLE who, SILENT ..; of as few the least as bits."
    private static void silenceFewestAndLeast() {
        DuskTown x = dayOne("people 6;meet 5 4 at 1;meet 4 3 at 2;promise 5 4 at 0;", 56, 1, 0);
        Check.same("5, 4 and 3 know it and meet", x.silence(0, 1), 56);
        x.say(1, 1, 1, 0);
        x.days(1);
        Check.same("4 and 3", x.silence(0, 60), 24);
        Check.same("with both silent", x.stands(0, 24), 0);
        Check.same("with one silent", x.stands(0, 8), 60);
        Check.same("with the other one silent", x.stands(0, 16), 60);
        DuskTown one = dayOne("people 3;meet 0 2 at 3;promise 0 1 at 0;", 7, 0, 0);
        Check.same("0 and 2, not 1, who meets nobody", one.silence(0, 60), 5);
    }

    // "STANDS with some SILENT: the most DAYS (0 to 60)"
    private static void standsNoughtToSixty() {
        DuskTown x = three();
        int[] due = {60, 60, 60, 60, 60, 60, 60, 0};
        for (int silent = 0; silent < 8; silent++) {
            Check.same("stands(0, " + silent + ")", x.stands(0, silent), due[silent]);
            Check.same("as kept for a day", x.keep(0, 1, silent, 1), due[silent] == 0 ? DuskTown.NONE : 1);
            Check.same("as kept for 60", x.keep(0, 60, silent, 1), due[silent] == 0 ? DuskTown.NONE : 60);
        }
    }

    // pairs: "PAIRS for n DAYS (1 to 60)"
    private static void pairsOneToSixtyDays() {
        DuskTown x = three();
        for (int days : new int[] {0, -1, 61, 400, FAR_AWAY[0], FAR_AWAY[1]}) {
            Check.illegal("pairs of " + days, () -> x.pairs(0, days));
        }
        for (int days : new int[] {1, 2, 59, 60}) {
            Check.same("pairs of " + days, x.pairs(0, days), 3);
        }
    }

    // "PAIRS: couples of PEOPLE by whom it can be KEPT .., if all others are SILENT: how many."
    private static void pairsHowMany() {
        int[] due = {0, 0, 0, 3, 5, 7, 9};
        for (int people = 3; people <= 6; people++) {
            DuskTown x = dayOne("people " + people + ";meet 0 2 at 3;promise 0 1 at 0;", 7, 0, 0);
            Check.same("pairs of " + people + " people with 0 or 2", x.pairs(0, 60), due[people]);
            int counted = 0;
            for (int one = 0; one < people; one++) {
                for (int other = one + 1; other < people; other++) {
                    int others = (1 << people) - 1 & ~(1 << one | 1 << other);
                    counted += x.stands(0, others) == 60 ? 1 : 0;
                }
            }
            Check.same("one by one", counted, due[people]);
        }
        DuskTown six = dayOne("people 6;meet 0 2 at 3;meet 2 3 at 4;meet 3 4 at 5;meet 4 5 at 6;meet 1 0 at 7;promise 0 1 at 0;", 63,
            0, 0, 1, 0, 2, 0, 3, 0);
        Check.same("all 15 of six", six.pairs(0, 1), 15);
    }

    private static void askingChangesNothing() {
        DuskTown x = three();
        x.keep(0, 1, 0, 0);
        String before = Look.all(x);
        x.silence(0, 60);
        x.stands(0, 3);
        x.pairs(0, 60);
        x.keep(0, 400, 0, 0);
        x.keep(0, 400, 7, 1);
        Check.same("behind all", Look.all(x), before);
        Check.same("the town goes on as it would", x.days(1), 1);
        Check.same("nothing is paid by keeping", x.count(5), 2);
    }
}
