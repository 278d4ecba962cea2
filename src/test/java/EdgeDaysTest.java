/**
 * Promises 8 to 11 and the Terms of sayings and days: for each sentence that names a boundary the
 * last case on this side of it and the first one on the other.
 */
public final class EdgeDaysTest {
    private static final int EACH = DuskTown.NONE;
    private static final int NOT_MADE = 0;
    private static final int STANDS = 1;
    private static final int UNDONE = 2;

    public static void main(String[] args) {
        sayingsAtMostSixty();
        sayingsTakenBack();
        dayOfASaying();
        eachDayHasNoEnd();
        firstOrSecondOne();
        noSuchMeetingOrPromiseAhead();
        madeAheadOfMeetings();
        madeAtTheLastHourOfTheLastDay();
        byAndToHaveHeard();
        undoneAtOnceByALaterOne();
        undoneAtOnceByAnUndoneOne();
        undoneAtOnceByOneOfTwo();
        madeWithWhatItLeansOn();
        onceAnHour();
        onceAnHourAnewEachHour();
        whatCantBeIsNotSaid();
        aSayingOfAnotherDay();
        knowsFromTheDayBefore();
        hasHeardThatDay();
        pricesArePaid();
        saidAgainToOneWhoHadNotHeard();
        saidAgainOfThatDayAlone();
        meetingsByHourThenNumber();
        sayingsAsTheyWereTold();
        fallsWithWhatItLeansOn();
        fallsWithOneOfTwo();
        onlyWhatLeansFalls();
        knowAtDusk();
        daysNoughtToHundred();
        countedInTheseDays();
        fullTown();
        Check.end("EdgeDaysTest");
    }

    private static void state(String what, DuskTown x, int promise, int is, int undoneOn, int know) {
        Check.same(what + ": what promise " + promise + " is", x.promise(promise, 5), is);
        Check.same(what + ": when promise " + promise + " was undone", x.promise(promise, 6), undoneOn);
        Check.same(what + ": who knows promise " + promise, x.promise(promise, 7), know);
    }

    // "SAYINGS (at most 60)"; say: "NONE (STATUS 1): there are 60"
    private static void sayingsAtMostSixty() {
        DuskTown x = Check.town("people 3;meet 0 2 at 3;promise 0 1 at 0;");
        for (int i = 1; i <= 59; i++) {
            Check.same("saying " + i, x.say(50, 0, 0, 0), i);
        }
        Check.same("saying 60", x.say(0, 0, 0, 0), 60);
        Check.same("no refusal so far", x.count(8), 0);
        for (int i = 1; i <= 3; i++) {
            Check.same("saying 61", x.say(1, 0, 0, 0), DuskTown.NONE);
            Check.same("refusals", x.count(8), i);
            Check.same("sayings", x.count(3), 60);
        }
        Check.same("the sixtieth is said", x.days(1), 0);
        Check.same("the refused one is not", x.days(1), 1);
        Check.same("taken back", x.unsay(), 59);
        Check.same("the sixtieth anew", x.say(EACH, 0, 1, 0), 60);
        Check.same("refusals stay", x.count(8), 3);
    }

    // "The latest SAYING is taken back: how many are left. NONE: there are none."
    private static void sayingsTakenBack() {
        DuskTown x = Check.town("people 3;meet 0 2 at 3;meet 0 1 at 4;promise 0 1 at 0;");
        x.say(EACH, 0, 0, 0);
        x.say(EACH, 1, 0, 0);
        x.say(EACH, 1, 1, 0);
        x.say(EACH, 0, 9, 0);
        Check.same("of three, the refused one being none", x.unsay(), 2);
        Check.same("of two", x.unsay(), 1);
        Check.same("the first is left", x.days(1), 0);
        Check.same("and it alone", x.count(5), 1);
        Check.same("of one", x.unsay(), 0);
        for (int i = 0; i < 2; i++) {
            Check.same("of none", x.unsay(), DuskTown.NONE);
            Check.same("none still", x.count(3), 0);
            Check.same("the refusal ahead alone", x.count(8), 1);
        }
        Check.same("nothing is said", x.days(1), 1);
        Check.same("nothing is paid", x.count(5), 1);
        Check.same("a saying again", x.say(0, 0, 0, 0), 1);
    }

    // "of a DAY (0 to 99, or each: NONE)"; say: "NONE (STATUS 1): .. the DAY .. is not as told"
    private static void dayOfASaying() {
        DuskTown x = Check.town("people 3;meet 0 2 at 3;promise 0 1 at 0;promise 0 1 day 99 at 0;");
        int refused = 0;
        for (int day : new int[] {-2, 100, 101, Integer.MIN_VALUE, Integer.MAX_VALUE, -1 - 256, 256}) {
            Check.same("say on day " + day, x.say(day, 0, 0, 0), DuskTown.NONE);
            refused++;
            Check.same("refusals", x.count(8), refused);
            Check.same("sayings", x.count(3), 0);
        }
        Check.same("say on day 0", x.say(0, 0, 0, 0), 1);
        Check.same("say on day 99", x.say(99, 0, 0, 1), 2);
        Check.same("no more refusals", x.count(8), refused);
        Check.same("day 0", x.days(1), 0);
        Check.same("day 1: only on day 0 was it said", x.days(1), 1);
        Check.same("to day 98", x.days(97), 0);
        state("ahead of day 99", x, 1, NOT_MADE, -1, 0);
        Check.same("day 99", x.days(1), 0);
        state("behind day 99", x, 1, STANDS, -1, 7);
        Check.same("day 100: only on day 99 was it said", x.days(1), 1);
        state("behind day 100", x, 1, UNDONE, 100, 0);
        Check.same("twice said", x.count(5), 2);
    }

    // "each: NONE", on days behind the last that can be told too
    private static void eachDayHasNoEnd() {
        DuskTown x = Check.town("people 3;price 0 3;meet 0 2 at 3;promise 0 1 at 0;");
        Check.same("say each day", x.say(EACH, 0, 0, 0), 1);
        Check.same("each is no refusal", x.count(8), 0);
        Check.same("days 0 to 99", x.days(100), 0);
        Check.same("days 100 to 199", x.days(100), 0);
        state("behind day 199", x, 0, STANDS, -1, 5);
        Check.same("each was paid", x.count(5), 600);
        x.unsay();
        Check.same("day 200", x.days(1), 1);
        state("behind day 200", x, 0, UNDONE, 200, 0);
    }

    // "the first one of it (0) or the second one (1)"; say: "NONE: .. who is not as told"
    private static void firstOrSecondOne() {
        DuskTown x = Check.town("people 3;price 0 5;price 2 70;meet 2 0 at 3;promise 0 1 at 0;");
        int refused = 0;
        for (int who : new int[] {-1, 2, 3, Integer.MIN_VALUE, Integer.MAX_VALUE}) {
            Check.same("who " + who, x.say(EACH, 0, who, 0), DuskTown.NONE);
            refused++;
            Check.same("refusals", x.count(8), refused);
            Check.same("sayings", x.count(3), 0);
        }
        Check.same("the second one", x.say(0, 0, 1, 0), 1);
        Check.same("the first one", x.say(1, 0, 0, 0), 2);
        Check.same("day 0", x.days(1), 0);
        Check.same("0 has said it", x.count(5), 5);
        Check.same("day 1", x.days(1), 0);
        Check.same("2 has said it", x.count(5), 75);
    }

    // say: "NoSuchElementException (ahead): no such MEETING, PROMISE."
    private static void noSuchMeetingOrPromiseAhead() {
        DuskTown x = Check.town("meet 0 1 at 0;meet 0 1 at 1;promise 0 1 at 0;promise 0 1 at 0;promise 0 1 at 0;");
        for (int meeting : new int[] {-1, 2, Integer.MIN_VALUE, Integer.MAX_VALUE}) {
            Check.missing("meeting " + meeting, () -> x.say(0, meeting, 0, 0));
            Check.missing("meeting " + meeting + ", all wrong", () -> x.say(100, meeting, 2, 3));
        }
        for (int promise : new int[] {-1, 3, Integer.MIN_VALUE, Integer.MAX_VALUE}) {
            Check.missing("promise " + promise, () -> x.say(0, 0, 0, promise));
            Check.missing("promise " + promise + ", all else wrong", () -> x.say(-2, 0, -1, promise));
        }
        Check.same("no refusals", x.count(8), 0);
        Check.same("no sayings", x.count(3), 0);
        for (int i = 1; i <= 60; i++) {
            Check.same("the last meeting and promise", x.say(EACH, 1, 1, 2), i);
        }
        Check.missing("meeting 2, there being 60", () -> x.say(0, 2, 0, 0));
        Check.missing("promise 3, there being 60", () -> x.say(0, 0, 0, 3));
        Check.same("no refusals still", x.count(8), 0);
        DuskTown none = Check.town("meet 0 1 at 0;");
        Check.missing("no promise at all", () -> none.say(0, 0, 0, 0));
        DuskTown alone = Check.town("promise 0 1 at 0;");
        Check.missing("no meeting at all", () -> alone.say(0, 0, 0, 0));
    }

    // "at each HOUR first the PROMISES made then are made .. then MEETINGS of that HOUR"
    private static void madeAheadOfMeetings() {
        for (int hour = 0; hour < 12; hour++) {
            DuskTown x = Check.town("people 3;meet 0 2 at " + hour + ";promise 0 1 at " + hour + ";");
            x.say(EACH, 0, 0, 0);
            Check.same("made and said at hour " + hour, x.days(1), 0);
            if (hour > 0) {
                DuskTown y = Check.town("people 3;meet 0 2 at " + (hour - 1) + ";promise 0 1 at " + hour + ";");
                y.say(EACH, 0, 0, 0);
                Check.same("not said the hour before " + hour, y.days(1), 1);
                Check.same("nothing paid", y.count(5), 0);
                state("made at hour " + hour, y, 0, UNDONE, 0, 3);
            }
        }
    }

    // the last HOUR of the last DAY on which one can be made
    private static void madeAtTheLastHourOfTheLastDay() {
        DuskTown x = Check.town("people 3;meet 2 0 at 11;promise 0 1 day 99 at 11;promise 0 1 at 0 on 0;");
        x.say(EACH, 0, 1, 0);
        Check.same("day 0: one leans on it too early", x.days(1), 1);
        Check.same("days 1 to 98", x.days(98), 0);
        state("on day 99", x, 0, NOT_MADE, -1, 0);
        Check.same("day 99", x.days(1), 0);
        state("on day 100", x, 0, STANDS, -1, 7);
        Check.same("days 100 to 199", x.days(100), 0);
        state("it is made once", x, 0, STANDS, -1, 5);
    }

    // "(BY and TO have HEARD it that day"
    private static void byAndToHaveHeard() {
        for (int who = 0; who <= 1; who++) {
            DuskTown x = Check.town("people 3;price 0 2;price 1 2;meet 0 1 at 3;promise 0 1 at 3;");
            x.say(EACH, 0, who, 0);
            Check.same("one of both to the other", x.days(1), 1);
            Check.same("is said and paid", x.count(5), 2);
            state("one of both to the other", x, 0, UNDONE, 0, 3);
            DuskTown y = Check.town("people 3;meet " + who + " 2 at 3;promise 0 1 at 3;");
            y.say(EACH, 0, 0, 0);
            Check.same("one of both to a third", y.days(1), 0);
            state("one of both to a third", y, 0, STANDS, -1, 7);
        }
        DuskTown z = Check.town("people 3;promise 1 2 at 11;");
        Check.same("nothing said", z.days(1), 1);
        state("nothing said", z, 0, UNDONE, 0, 6);
    }

    // "if one that it leans on doesn't stand then, it isn't made: it is UNDONE at once"
    private static void undoneAtOnceByALaterOne() {
        DuskTown x = Check.town("people 3;meet 0 2 at 4;meet 0 2 at 6;promise 0 1 at 5;promise 0 1 at 4 on 0;"
            + "promise 0 1 day 3 at 0;promise 0 1 day 2 at 11 on 2;");
        x.say(EACH, 0, 0, 1);
        x.say(EACH, 1, 0, 0);
        Check.same("day 0: it leans on one of the next hour", x.days(1), 1);
        state("day 0", x, 0, STANDS, -1, 7);
        state("day 0", x, 1, UNDONE, 0, 0);
        Check.same("day 0: it can't be said", x.count(5), 1);
        Check.same("day 1", x.days(1), 0);
        state("day 1", x, 3, NOT_MADE, -1, 0);
        Check.same("day 2: it leans on one of the next day", x.days(1), 1);
        state("day 2", x, 2, NOT_MADE, -1, 0);
        state("day 2", x, 3, UNDONE, 2, 0);
        Check.same("day 3: undone is undone", x.days(1), 1);
        state("day 3", x, 2, UNDONE, 3, 3);
        state("day 3", x, 3, UNDONE, 2, 0);
        state("day 3", x, 1, UNDONE, 0, 0);
    }

    private static void undoneAtOnceByAnUndoneOne() {
        DuskTown x = Check.town("people 3;meet 0 2 at 3;promise 0 1 at 0;promise 0 1 day 1 at 0 on 0;promise 0 1 day 1 at 0 on 1;"
            + "promise 0 1 day 1 at 0;promise 0 1 day 1 at 3 on 2;");
        x.say(1, 0, 0, 1);
        x.say(1, 0, 0, 4);
        x.say(EACH, 0, 0, 3);
        Check.same("day 0", x.days(1), 1);
        state("day 0", x, 0, UNDONE, 0, 3);
        Check.same("day 1: by one undone at dusk, and by those undone at once", x.days(1), 3);
        state("day 1", x, 1, UNDONE, 1, 0);
        state("day 1", x, 2, UNDONE, 1, 0);
        state("day 1", x, 4, UNDONE, 1, 0);
        state("day 1: who leans on nothing is said instead", x, 3, STANDS, -1, 7);
        Check.same("once", x.count(5), 1);
    }

    private static void undoneAtOnceByOneOfTwo() {
        DuskTown x = Check.town("people 3;meet 0 2 at 3;meet 0 2 at 4;promise 0 1 at 0;promise 0 1 at 5;promise 0 1 at 2 on 0 1;"
            + "promise 0 1 at 2 on 1 0;promise 0 1 at 2 on 0;");
        x.say(EACH, 0, 0, 0);
        x.say(EACH, 1, 0, 4);
        Check.same("one of two does not stand", x.days(1), 3);
        state("leaning on the first and the second", x, 2, UNDONE, 0, 0);
        state("leaning on the second and the first", x, 3, UNDONE, 0, 0);
        state("leaning on the first alone", x, 4, STANDS, -1, 7);
    }

    // one that is made in the very HOUR stands then
    private static void madeWithWhatItLeansOn() {
        DuskTown x = Check.town("people 4;meet 0 2 at 11;meet 1 3 at 11;promise 0 1 at 11;promise 1 0 at 11 on 0;"
            + "promise 1 0 at 11 on 1 0;");
        x.say(EACH, 0, 0, 0);
        x.say(EACH, 1, 0, 1);
        Check.same("made, and not said again", x.days(1), 1);
        state("the first", x, 0, STANDS, -1, 7);
        state("the second", x, 1, STANDS, -1, 11);
        state("the third was made", x, 2, UNDONE, 0, 3);
    }

    // "who would say has said nothing in this HOUR"; "once that HOUR"
    private static void onceAnHour() {
        DuskTown x = Check.town("people 4;meet 0 2 at 5;meet 3 0 at 5;meet 2 3 at 5;promise 0 1 at 0;promise 0 1 at 0;");
        x.say(EACH, 0, 0, 0);
        x.say(EACH, 0, 0, 1);
        x.say(EACH, 1, 1, 1);
        x.say(EACH, 2, 0, 0);
        Check.same("0 said one thing, at one meeting", x.days(1), 1);
        Check.same("0 and 2 said something", x.count(5), 2);
        state("2 said it in the hour in which he heard it", x, 0, STANDS, -1, 15);
        state("the other one was not said", x, 1, UNDONE, 0, 3);
        // that others have spoken in between does not give him a second saying
        DuskTown z = Check.town("people 4;meet 0 2 at 5;meet 2 1 at 5;meet 0 3 at 5;promise 0 1 at 0;promise 0 1 at 0;");
        z.say(EACH, 0, 0, 0);
        z.say(EACH, 1, 0, 0);
        z.say(EACH, 2, 0, 1);
        Check.same("0, then 2, then not 0", z.days(1), 1);
        Check.same("0 and 2 paid", z.count(5), 2);
        // one who has been told something has said nothing yet
        DuskTown y = Check.town("people 3;meet 0 2 at 5;promise 0 1 at 0;promise 2 1 at 0;");
        y.say(EACH, 0, 0, 0);
        y.say(EACH, 0, 1, 1);
        Check.same("both of one meeting say something", y.days(1), 0);
        Check.same("both pay", y.count(5), 2);
    }

    private static void onceAnHourAnewEachHour() {
        DuskTown x = Check.town("people 3;meet 0 2 at 0;meet 0 2 at 1;meet 0 2 at 11;promise 0 1 at 0;promise 0 1 at 0;"
            + "promise 0 1 at 0;");
        for (int i = 0; i < 3; i++) {
            x.say(EACH, i, 0, i);
        }
        Check.same("three hours, three sayings", x.days(1), 0);
        Check.same("hour 0 behind hour 11 of the day before", x.days(1), 0);
        Check.same("all were paid", x.count(5), 6);
    }

    // "What can't be so isn't said, and doesn't count as having said something."
    private static void whatCantBeIsNotSaid() {
        DuskTown x = Check.town("people 3;price 0 9;meet 0 2 at 5;meet 0 2 at 5;promise 0 1 at 0;promise 0 1 at 6;"
            + "promise 1 2 at 0;promise 0 1 at 0 on 1;");
        x.say(EACH, 0, 0, 1);
        x.say(EACH, 0, 0, 2);
        x.say(EACH, 0, 0, 3);
        x.say(EACH, 1, 0, 0);
        Check.same("day 0: not made yet, not had, undone; then what can be", x.days(1), 3);
        state("day 0", x, 0, STANDS, -1, 7);
        Check.same("day 0: paid once", x.count(5), 9);
        Check.same("day 1: undone", x.days(1), 0);
        Check.same("day 1: paid once more", x.count(5), 18);
    }

    // "its SAYINGS for this DAY"
    private static void aSayingOfAnotherDay() {
        DuskTown x = Check.town("people 3;meet 0 2 at 5;promise 0 1 at 0;promise 0 1 at 0;");
        x.say(1, 0, 0, 1);
        x.say(0, 0, 0, 0);
        x.say(EACH, 0, 0, 1);
        Check.same("day 0: the one of day 1 is not in the way", x.days(1), 1);
        state("day 0", x, 0, STANDS, -1, 7);
        state("day 0", x, 1, UNDONE, 0, 3);
    }

    // "he HAS it (he KNOWS it from the day before"
    private static void knowsFromTheDayBefore() {
        DuskTown x = Check.town("people 4;meet 0 2 at 3;meet 1 3 at 4;promise 0 1 at 0;");
        x.say(0, 0, 0, 0);
        x.say(1, 1, 0, 0);
        Check.same("days 0 and 1", x.days(2), 0);
        state("1 knew it, told 3, and both know it", x, 0, STANDS, -1, 10);
        x.say(2, 0, 0, 0);
        x.say(2, 0, 1, 0);
        Check.same("day 2: 0 and 2 knew it two days before", x.days(1), 1);
        Check.same("they could say nothing", x.count(5), 2);
        state("nobody heard it", x, 0, UNDONE, 2, 0);
    }

    // "or has HEARD it that day)"
    private static void hasHeardThatDay() {
        DuskTown x = Check.town("people 4;meet 2 3 at 3;meet 0 2 at 4;meet 2 3 at 5;promise 0 1 at 0;");
        x.say(EACH, 0, 0, 0);
        x.say(EACH, 1, 0, 0);
        Check.same("2 has it too late for hour 3", x.days(1), 0);
        Check.same("one said it", x.count(5), 1);
        state("day 0", x, 0, STANDS, -1, 7);
        x.say(EACH, 2, 1, 0);
        Check.same("day 1", x.days(1), 0);
        Check.same("2 at hour 3, 0 at hour 4, 3 at hour 5", x.count(5), 4);
        state("day 1", x, 0, STANDS, -1, 13);
    }

    // "it costs his PRICE"; "PAID: all PRICES."
    private static void pricesArePaid() {
        DuskTown x = Check.town("people 4;price 0 0;price 1 99;price 2 5;meet 0 2 at 1;meet 1 2 at 2;meet 2 0 at 3;meet 3 0 at 4;"
            + "promise 0 1 at 0;");
        x.say(EACH, 0, 0, 0);
        Check.same("for nothing", x.days(1), 0);
        Check.same("paid nothing", x.count(5), 0);
        x.say(EACH, 1, 0, 0);
        x.say(EACH, 2, 0, 0);
        x.say(EACH, 3, 1, 0);
        Check.same("day 1", x.days(1), 0);
        Check.same("who says it to one who has heard it pays too", x.count(5), 99 + 5);
        x.say(EACH, 3, 0, 0);
        Check.same("day 2", x.days(1), 0);
        Check.same("1, 2 and then 3 paid", x.count(5), 2 * 104 + 1);
    }

    // "if the other hadn't HEARD it that day, it is SAID AGAIN"
    private static void saidAgainToOneWhoHadNotHeard() {
        DuskTown x = Check.town("people 3;meet 0 2 at 1;meet 0 1 at 2;promise 0 1 at 0;");
        x.say(0, 0, 0, 0);
        Check.same("day 0: to one who never had", x.days(1), 0);
        x.say(1, 1, 0, 0);
        Check.same("day 1: to one who knows it from the day before", x.days(1), 0);
        x.say(2, 1, 1, 0);
        x.say(2, 1, 0, 0);
        Check.same("day 2: that the other says it back undoes nothing", x.days(1), 0);
        state("day 2", x, 0, STANDS, -1, 3);
        DuskTown y = Check.town("people 3;meet 0 2 at 1;meet 1 2 at 2;promise 0 1 at 2;");
        y.say(EACH, 1, 1, 0);
        y.say(EACH, 0, 1, 0);
        Check.same("2 does not have it", y.days(1), 1);
    }

    private static void saidAgainOfThatDayAlone() {
        DuskTown x = Check.town("people 3;meet 0 2 at 1;promise 0 1 at 0;promise 0 1 at 0;");
        x.say(0, 0, 0, 0);
        Check.same("day 0: one, not the other", x.days(1), 1);
        state("day 0", x, 1, UNDONE, 0, 3);
        Check.same("day 1: what was said on day 0 counts no more", x.days(1), 1);
        state("day 1", x, 0, UNDONE, 1, 0);
    }

    // "then MEETINGS of that HOUR, by number"
    private static void meetingsByHourThenNumber() {
        String chain = "meet 0 2 at 5;meet 2 3 at 5;meet 3 4 at 5;meet 4 5 at 5;";
        DuskTown x = Check.town("people 6;" + chain + "promise 0 1 at 5;");
        String back = "meet 4 5 at 5;meet 3 4 at 5;meet 2 3 at 5;meet 0 2 at 5;";
        DuskTown y = Check.town("people 6;" + back + "promise 0 1 at 5;");
        DuskTown z = Check.town("people 6;" + "meet 4 5 at 9;meet 3 4 at 8;meet 2 3 at 7;meet 0 2 at 6;" + "promise 0 1 at 5;");
        for (int meeting = 3; meeting >= 0; meeting--) {
            x.say(EACH, meeting, 0, 0);
            y.say(EACH, meeting, 0, 0);
            z.say(EACH, meeting, 0, 0);
        }
        x.days(1);
        y.days(1);
        z.days(1);
        state("by number, along the chain", x, 0, STANDS, -1, 63);
        state("by number, against the chain", y, 0, STANDS, -1, 7);
        state("by hour, whatever the number", z, 0, STANDS, -1, 63);
    }

    // "in the order they were told"
    private static void sayingsAsTheyWereTold() {
        for (int first = 0; first <= 1; first++) {
            DuskTown x = Check.town("people 3;meet 0 2 at 5;promise 0 1 at 0;promise 0 1 at 0;");
            x.say(0, 0, 0, first);
            x.say(EACH, 0, 0, 1 - first);
            Check.same("one of both", x.days(1), 1);
            state("told first", x, first, STANDS, -1, 7);
            state("told behind it", x, 1 - first, UNDONE, 0, 3);
        }
    }

    // "AT DUSK each PROMISE that stands, and was not SAID AGAIN that DAY, is UNDONE, and so is each that leans on one .."
    private static void fallsWithWhatItLeansOn() {
        StringBuilder text = new StringBuilder("people 3;");
        for (int hour = 0; hour < 12; hour++) {
            text.append("meet 0 2 at ").append(hour).append(";");
        }
        text.append("promise 0 1 at 0;");
        for (int promise = 1; promise < 12; promise++) {
            text.append("promise 0 1 at 0 on ").append(promise - 1).append(";");
        }
        DuskTown x = Check.town(text.toString());
        x.say(0, 0, 0, 0);
        for (int promise = 1; promise < 12; promise++) {
            x.say(EACH, promise, 0, promise);
        }
        Check.same("day 0: all are said again", x.days(1), 0);
        Check.same("day 1: the first falls, and all that leans on it", x.days(1), 12);
        state("the first", x, 0, UNDONE, 1, 0);
        for (int promise = 1; promise < 12; promise++) {
            state("leaning on it", x, promise, UNDONE, 1, 5);
        }
        Check.same("said and paid, all the same", x.count(5), 12 + 11);
        Check.same("day 2", x.days(1), 0);
        Check.same("nothing more is paid", x.count(5), 23);
        for (int promise = 0; promise < 12; promise++) {
            state("a day behind it", x, promise, UNDONE, 1, 0);
        }
    }

    private static void fallsWithOneOfTwo() {
        for (int falls = 0; falls <= 1; falls++) {
            DuskTown x = Check.town("people 3;meet 0 2 at 1;meet 0 2 at 2;promise 0 1 at 0;promise 0 1 at 0;promise 0 1 at 0 on 1 0;");
            x.say(EACH, 0, 0, 1 - falls);
            x.say(EACH, 1, 0, 2);
            Check.same("one of two, and what leans on both", x.days(1), 2);
            state("the one", x, falls, UNDONE, 0, 3);
            state("the other one", x, 1 - falls, STANDS, -1, 7);
            state("what leans on both", x, 2, UNDONE, 0, 7);
        }
    }

    private static void onlyWhatLeansFalls() {
        DuskTown x = Check.town("people 3;meet 0 2 at 1;meet 0 2 at 2;promise 0 1 at 0;promise 0 1 at 0 on 0;promise 0 1 at 0 on 1;"
            + "promise 0 1 day 5 at 0 on 1;");
        x.say(EACH, 0, 0, 0);
        x.say(0, 1, 0, 1);
        Check.same("day 0: the last one of the chain", x.days(1), 1);
        state("day 0", x, 2, UNDONE, 0, 3);
        Check.same("day 1: the middle one; what it leans on stands", x.days(1), 1);
        state("day 1", x, 0, STANDS, -1, 5);
        state("day 1", x, 1, UNDONE, 1, 0);
        state("day 1: not made yet", x, 3, NOT_MADE, -1, 0);
        Check.same("days 2 to 4", x.days(3), 0);
        Check.same("day 5", x.days(1), 1);
        state("day 5", x, 3, UNDONE, 5, 0);
    }

    // "KNOW of each then: those who HEARD it that day."
    private static void knowAtDusk() {
        DuskTown x = Check.town("people 6;meet 0 2 at 1;meet 2 3 at 2;meet 3 4 at 3;promise 0 1 at 0;");
        Check.same("ahead of day 0", x.promise(0, 7), 0);
        for (int meeting = 0; meeting < 3; meeting++) {
            x.say(0, meeting, 0, 0);
        }
        x.say(1, 1, 1, 0);
        x.say(2, 1, 0, 0);
        Check.same("day 0", x.days(1), 0);
        state("day 0: all but 5", x, 0, STANDS, -1, 31);
        Check.same("day 1", x.days(1), 0);
        state("day 1: 3 and 2", x, 0, STANDS, -1, 12);
        Check.same("day 2", x.days(1), 0);
        state("day 2: 2 and 3", x, 0, STANDS, -1, 12);
        Check.same("day 3", x.days(1), 1);
        state("day 3: nobody", x, 0, UNDONE, 3, 0);
    }

    // days: "So many DAYS (0 to 100) go by"; "IllegalArgumentException: not as told."
    private static void daysNoughtToHundred() {
        DuskTown x = Check.town("people 3;meet 0 2 at 1;promise 0 1 at 0;promise 0 1 day 99 at 11;");
        x.say(EACH, 0, 0, 0);
        for (int days : new int[] {-1, 101, Integer.MIN_VALUE, Integer.MAX_VALUE}) {
            String before = Look.all(x);
            Check.illegal("days(" + days + ")", () -> x.days(days));
            Check.same("behind days(" + days + ")", Look.all(x), before);
        }
        String before = Look.all(x);
        Check.same("days(0)", x.days(0), 0);
        Check.same("behind days(0)", Look.all(x), before);
        Check.same("days(1)", x.days(1), 0);
        Check.same("the day", x.count(4), 1);
        Check.same("days(100)", x.days(100), 1);
        Check.same("the day then", x.count(4), 101);
        Check.same("paid", x.count(5), 101);
        state("the one of day 99", x, 1, UNDONE, 99, 0);
        Check.same("no refusals", x.count(7) + x.count(8), 0);
        DuskTown y = new DuskTown();
        Check.same("a new object: days(100)", y.days(100), 0);
        Check.same("its day", y.count(4), 100);
    }

    // "how many PROMISES were UNDONE in them"
    private static void countedInTheseDays() {
        DuskTown x = Check.town("promise 0 1 at 0;promise 0 1 day 1 at 0;promise 0 1 day 1 at 0 on 0;promise 0 1 day 2 at 0;"
            + "promise 0 1 day 2 at 0 on 3;promise 0 1 day 50 at 0;");
        Check.same("day 0", x.days(1), 1);
        Check.same("days(0)", x.days(0), 0);
        Check.same("day 1: at dusk and at once", x.days(1), 2);
        Check.same("days 2 to 49: each counts once", x.days(48), 2);
        Check.same("day 50", x.days(1), 1);
        Check.same("no more", x.days(100), 0);
    }

    // all limits of a town at once
    private static void fullTown() {
        StringBuilder text = new StringBuilder("people 6;");
        for (int meeting = 0; meeting < 12; meeting++) {
            text.append("meet ").append(meeting % 2 == 0 ? "0 5" : "5 4").append(" at ").append(meeting).append(";");
        }
        text.append("price 0 99;price 5 99;");
        for (int promise = 0; promise < 12; promise++) {
            text.append("promise 0 1 day ").append(promise < 11 ? 98 : 99).append(" at 0;");
        }
        DuskTown x = Check.town(text.toString());
        for (int i = 0; i < 60; i++) {
            Check.same("saying", x.say(EACH, i % 12, 0, i % 12), i + 1);
        }
        Check.same("days 0 to 97", x.days(98), 0);
        Check.same("nothing to say", x.count(5), 0);
        // 0 says the even ones at even hours; 5 has none of the odd ones
        Check.same("day 98", x.days(1), 5);
        Check.same("six sayings", x.count(5), 6 * 99);
        Check.same("day 99: the last one is made, and not had by 5", x.days(1), 1);
        Check.same("six more", x.count(5), 12 * 99);
        Check.same("day 100 on", x.days(100), 0);
        Check.same("six on each", x.count(5), 612 * 99);
        state("an even one", x, 10, STANDS, -1, 33);
        state("an odd one", x, 9, UNDONE, 98, 0);
        state("the last one", x, 11, UNDONE, 99, 0);
    }
}
