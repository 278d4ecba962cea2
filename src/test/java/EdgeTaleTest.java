/**
 * Promises 17 and 18 and the Terms of tales: for each sentence that names a boundary the last
 * hour, day or person on this side of it and the first one on the other.
 */
public final class EdgeTaleTest {
    private static final int EACH = DuskTown.NONE;
    private static final int FALSE = 0;
    private static final int OPEN = 1;
    private static final int TRUE = 2;

    public static void main(String[] args) {
        byAnHourThatCounts();
        onThatDayOrOneAhead();
        byAndToFromTheHourItIsMade();
        mayWhateverElse();
        mayAtTheHourItIsMade();
        mayByHourThenNumber();
        mayDayByDay();
        mayOnlyByMeeting();
        trueBySayingsAsTold();
        trueFromDayNoughtApartFromTheTown();
        trueOfOneAlone();
        trueOfWhatFell();
        trueUpToTheLastHour();
        undoneAtOnceIsHeardByNobody();
        lacksTheLeastWhoMay();
        lacksNobody();
        lacksOfATaleThatIsNotFalse();
        noSuchPersonPromiseDayHour();
        fullTown();
        askingChangesNothing();
        Check.end("EdgeTaleTest");
    }

    private static void tale(DuskTown x, int person, int promise, int day, int hour, int due) {
        Check.same("tale(" + person + ", " + promise + ", " + day + ", " + hour + ")", x.tale(person, promise, day, hour), due);
        if (due != FALSE) {
            lacks(x, person, promise, day, hour, DuskTown.NONE);
        }
    }

    private static void lacks(DuskTown x, int person, int promise, int day, int hour, int due) {
        Check.same("lacks(" + person + ", " + promise + ", " + day + ", " + hour + ")", x.lacks(person, promise, day, hour), due);
    }

    // "by an HOUR of a DAY (that HOUR's MEETINGS counted"
    private static void byAnHourThatCounts() {
        for (int hour = 1; hour < 12; hour++) {
            DuskTown x = Check.town("people 3;meet 0 2 at " + hour + ";promise 0 1 day 7 at 0;");
            tale(x, 2, 0, 7, hour - 1, FALSE);
            tale(x, 2, 0, 7, hour, OPEN);
            x.say(7, 0, 0, 0);
            tale(x, 2, 0, 7, hour - 1, FALSE);
            tale(x, 2, 0, 7, hour, TRUE);
        }
    }

    // "on that DAY or on one ahead of it)"
    private static void onThatDayOrOneAhead() {
        DuskTown x = Check.town("people 3;meet 0 2 at 11;promise 0 1 day 7 at 5;");
        x.say(7, 0, 0, 0);
        tale(x, 2, 0, 6, 11, FALSE);
        tale(x, 2, 0, 7, 10, FALSE);
        tale(x, 2, 0, 7, 11, TRUE);
        tale(x, 2, 0, 8, 0, TRUE);
        tale(x, 2, 0, 99, 0, TRUE);
        tale(x, 1, 0, 99, 11, TRUE);
        tale(x, 1, 0, 8, 0, TRUE);
    }

    // "MAY have HEARD by then: BY and TO from the HOUR in which it is made on"
    private static void byAndToFromTheHourItIsMade() {
        DuskTown x = Check.town("people 3;meet 0 1 at 4;promise 0 1 day 1 at 5;promise 1 2 at 0;promise 2 0 day 99 at 11;");
        for (int person = 0; person <= 1; person++) {
            tale(x, person, 0, 0, 11, FALSE);
            tale(x, person, 0, 1, 4, FALSE);
            tale(x, person, 0, 1, 5, TRUE);
            tale(x, person, 0, 2, 0, TRUE);
        }
        tale(x, 1, 1, 0, 0, TRUE);
        tale(x, 2, 1, 0, 0, TRUE);
        tale(x, 0, 1, 0, 3, FALSE);
        tale(x, 2, 2, 99, 10, FALSE);
        tale(x, 2, 2, 99, 11, TRUE);
        tale(x, 0, 2, 99, 11, TRUE);
        tale(x, 1, 2, 99, 11, FALSE);
    }

    // "the other one of one who MAY (whatever else)"
    private static void mayWhateverElse() {
        // promises 0 and 1 fall on day 0, and promise 2 is undone at once: who MAY have heard them does not ask for that
        DuskTown x = Check.town("people 4;meet 0 2 at 3;meet 2 3 at 2;promise 0 1 at 0;promise 0 1 at 0 on 0;promise 0 1 day 5 at 0 on 1;");
        x.days(3);
        for (int promise = 0; promise <= 1; promise++) {
            tale(x, 2, promise, 0, 2, FALSE);
            tale(x, 2, promise, 0, 3, OPEN);
            tale(x, 3, promise, 0, 11, FALSE);
            tale(x, 3, promise, 1, 1, FALSE);
            tale(x, 3, promise, 1, 2, OPEN);
        }
        tale(x, 0, 2, 4, 11, FALSE);
        tale(x, 0, 2, 5, 0, OPEN);
        tale(x, 1, 2, 99, 11, OPEN);
        tale(x, 3, 2, 6, 1, FALSE);
        tale(x, 3, 2, 6, 2, OPEN);
    }

    // "behind that, at each MEETING": those of the very HOUR are behind it
    private static void mayAtTheHourItIsMade() {
        DuskTown x = Check.town("people 4;meet 0 2 at 5;meet 1 3 at 4;promise 0 1 at 5;");
        tale(x, 2, 0, 0, 4, FALSE);
        tale(x, 2, 0, 0, 5, OPEN);
        tale(x, 3, 0, 0, 11, FALSE);
        tale(x, 3, 0, 1, 3, FALSE);
        tale(x, 3, 0, 1, 4, OPEN);
        DuskTown y = Check.town("people 3;meet 1 2 at 11;promise 0 1 day 99 at 11;");
        tale(y, 2, 0, 99, 10, FALSE);
        tale(y, 2, 0, 99, 11, OPEN);
        DuskTown z = Check.town("people 3;meet 1 2 at 10;promise 0 1 day 99 at 11;");
        tale(z, 2, 0, 99, 11, FALSE);
        lacks(z, 2, 0, 99, 11, 0);
    }

    // "HOUR by HOUR, by number"
    private static void mayByHourThenNumber() {
        DuskTown x = Check.town("people 6;meet 0 2 at 5;meet 3 2 at 5;meet 3 4 at 5;meet 5 4 at 4;promise 0 1 at 0;");
        tale(x, 2, 0, 0, 4, FALSE);
        for (int person = 2; person <= 4; person++) {
            tale(x, person, 0, 0, 5, OPEN);
        }
        tale(x, 5, 0, 0, 11, FALSE);
        tale(x, 5, 0, 1, 4, OPEN);
        DuskTown y = Check.town("people 5;meet 4 3 at 5;meet 3 2 at 5;meet 2 0 at 5;promise 0 1 at 0;");
        for (int person = 2; person <= 4; person++) {
            tale(y, person, 0, person - 2, 4, FALSE);
            tale(y, person, 0, person - 2, 5, OPEN);
        }
    }

    // "DAY by DAY"
    private static void mayDayByDay() {
        // against the hours each step takes a day: the longest way there is
        DuskTown x = Check.town("people 6;meet 5 4 at 1;meet 4 3 at 2;meet 3 2 at 3;meet 2 1 at 4;promise 0 1 day 90 at 5;");
        int[] day = {90, 90, 91, 92, 93, 94};
        int[] hour = {5, 5, 4, 3, 2, 1};
        for (int person = 0; person < 6; person++) {
            tale(x, person, 0, day[person], hour[person] - 1, FALSE);
            tale(x, person, 0, day[person], hour[person], person < 2 ? TRUE : OPEN);
        }
        DuskTown y = Check.town("people 6;meet 5 4 at 1;meet 4 3 at 2;meet 3 2 at 3;meet 2 1 at 4;promise 0 1 day 96 at 5;");
        tale(y, 4, 0, 99, 11, OPEN);
        tale(y, 5, 0, 99, 11, FALSE);
        lacks(y, 5, 0, 99, 11, 0);
    }

    private static void mayOnlyByMeeting() {
        DuskTown x = Check.town("people 6;meet 2 3 at 0;meet 4 5 at 1;meet 0 1 at 2;promise 0 1 at 0;");
        for (int person = 2; person < 6; person++) {
            tale(x, person, 0, 99, 11, FALSE);
            lacks(x, person, 0, 99, 11, 0);
        }
        DuskTown none = Check.town("people 3;promise 1 2 at 0;");
        tale(none, 0, 0, 99, 11, FALSE);
        lacks(none, 0, 0, 99, 11, 1);
    }

    // "TRUE (2): by SAYINGS as they are told"
    private static void trueBySayingsAsTold() {
        DuskTown x = Check.town("people 3;meet 0 2 at 5;promise 0 1 at 0;promise 0 1 at 0;");
        tale(x, 2, 1, 0, 5, OPEN);
        x.say(0, 0, 0, 1);
        tale(x, 2, 1, 0, 5, TRUE);
        x.unsay();
        tale(x, 2, 1, 0, 5, OPEN);
        x.say(0, 0, 0, 0);
        x.say(0, 0, 0, 1);
        tale(x, 2, 0, 0, 5, TRUE);
        tale(x, 2, 1, 99, 11, OPEN);
        x.say(0, 0, 9, 1);
        tale(x, 2, 1, 99, 11, OPEN);
        x.unsay();
        x.unsay();
        x.say(0, 0, 0, 1);
        tale(x, 2, 0, 99, 11, OPEN);
        tale(x, 2, 1, 0, 5, TRUE);
    }

    // "from DAY 0 on (gone through apart from the TOWN)"
    private static void trueFromDayNoughtApartFromTheTown() {
        DuskTown x = Check.town("people 3;meet 0 2 at 5;promise 0 1 at 0;");
        tale(x, 0, 0, 0, 0, TRUE);
        Check.same("in the town it is not made yet", x.promise(0, 5), 0);
        Check.same("in the town it falls", x.days(1), 1);
        x.say(EACH, 0, 0, 0);
        tale(x, 2, 0, 0, 5, TRUE);
        Check.same("in the town it is undone", x.promise(0, 5), 2);
        Check.same("and nothing was paid", x.count(5), 0);
        // what was said in the town, and is told no more, is no tale
        DuskTown y = Check.town("people 3;meet 0 2 at 5;promise 0 1 at 0;");
        y.say(EACH, 0, 0, 0);
        y.days(3);
        y.unsay();
        Check.same("2 knows it", y.promise(0, 7), 5);
        tale(y, 2, 0, 0, 5, OPEN);
    }

    // whoever is the only one that hears it in an HOUR
    private static void trueOfOneAlone() {
        for (int alone = 0; alone < 6; alone++) {
            int by = (alone + 1) % 6;
            int to = (alone + 2) % 6;
            DuskTown x = Check.town("people 6;meet " + by + " " + alone + " at 3;promise " + by + " " + to + " at 0;");
            x.say(0, 0, 0, 0);
            for (int person = 0; person < 6; person++) {
                boolean both = person == by || person == to;
                tale(x, person, 0, 0, 2, both ? TRUE : FALSE);
                tale(x, person, 0, 0, 3, both || person == alone ? TRUE : FALSE);
            }
        }
    }

    // one that fell can't be said behind its dusk, and was HEARD all the same
    private static void trueOfWhatFell() {
        DuskTown x = Check.town("people 4;meet 0 2 at 5;meet 0 3 at 6;promise 0 1 at 0;promise 0 1 at 0 on 0;");
        x.say(0, 0, 0, 0);
        x.say(1, 1, 0, 0);
        x.say(3, 1, 0, 0);
        x.say(0, 1, 0, 1);
        tale(x, 2, 0, 0, 5, TRUE);
        tale(x, 3, 0, 1, 5, OPEN);
        tale(x, 3, 0, 1, 6, TRUE);
        tale(x, 3, 1, 0, 6, TRUE);
        tale(x, 2, 1, 99, 11, OPEN);
        x.unsay();
        x.unsay();
        x.unsay();
        x.say(2, 1, 0, 0);
        tale(x, 3, 0, 99, 11, OPEN);
        tale(x, 2, 0, 99, 11, TRUE);
    }

    private static void trueUpToTheLastHour() {
        DuskTown x = Check.town("people 3;meet 0 2 at 11;promise 0 1 day 99 at 0;");
        x.say(EACH, 0, 0, 0);
        tale(x, 2, 0, 99, 10, FALSE);
        tale(x, 2, 0, 99, 11, TRUE);
        tale(x, 0, 0, 98, 11, FALSE);
        tale(x, 0, 0, 99, 0, TRUE);
        // kept through all the days, and told on the last one
        DuskTown y = Check.town("people 4;meet 0 2 at 1;meet 2 3 at 11;promise 0 1 at 0;");
        y.say(EACH, 0, 0, 0);
        y.say(99, 1, 0, 0);
        tale(y, 3, 0, 98, 11, OPEN);
        tale(y, 3, 0, 99, 10, OPEN);
        tale(y, 3, 0, 99, 11, TRUE);
    }

    // "it isn't made: it is UNDONE at once": nobody had HEARD it, though they MAY
    private static void undoneAtOnceIsHeardByNobody() {
        DuskTown x = Check.town("people 3;meet 0 2 at 5;promise 0 1 at 5;promise 0 1 at 4 on 0;promise 0 1 at 5 on 0;");
        x.say(EACH, 0, 0, 1);
        for (int person = 0; person <= 2; person++) {
            tale(x, person, 1, 0, person < 2 ? 3 : 4, FALSE);
            tale(x, person, 1, 0, person < 2 ? 4 : 5, OPEN);
            tale(x, person, 1, 99, 11, OPEN);
        }
        tale(x, 0, 2, 0, 4, FALSE);
        tale(x, 0, 2, 0, 5, TRUE);
        tale(x, 2, 2, 0, 5, OPEN);
    }

    // "LACKS: for a FALSE one, the least PERSON who MAY have HEARD by then"
    private static void lacksTheLeastWhoMay() {
        DuskTown x = Check.town("people 6;meet 5 2 at 3;meet 2 1 at 2;meet 1 0 at 1;promise 5 4 at 3;");
        lacks(x, 3, 0, 0, 3, 2);
        lacks(x, 1, 0, 0, 11, 2);
        lacks(x, 3, 0, 1, 1, 2);
        lacks(x, 3, 0, 1, 2, 1);
        lacks(x, 0, 0, 1, 11, 1);
        lacks(x, 3, 0, 2, 0, 1);
        lacks(x, 3, 0, 2, 1, 0);
        lacks(x, 3, 0, 99, 11, 0);
        DuskTown y = Check.town("people 6;promise 4 5 at 0;");
        for (int person = 0; person < 4; person++) {
            lacks(y, person, 0, 0, 0, 4);
        }
        DuskTown z = Check.town("people 6;promise 5 4 at 0;");
        lacks(z, 0, 0, 99, 11, 4);
    }

    // "none, if nobody MAY"; lacks: "NONE: nobody MAY"
    private static void lacksNobody() {
        DuskTown x = Check.town("people 3;meet 0 1 at 0;meet 1 2 at 11;promise 0 1 day 3 at 4;");
        for (int person = 0; person < 3; person++) {
            tale(x, person, 0, 3, 3, FALSE);
            lacks(x, person, 0, 3, 3, DuskTown.NONE);
            lacks(x, person, 0, 0, 0, DuskTown.NONE);
        }
        lacks(x, 2, 0, 3, 4, 0);
    }

    // lacks: "NONE: .. or it isn't FALSE"
    private static void lacksOfATaleThatIsNotFalse() {
        DuskTown x = Check.town("people 3;meet 1 2 at 11;promise 0 1 day 3 at 4;");
        lacks(x, 0, 0, 3, 4, DuskTown.NONE);
        lacks(x, 1, 0, 3, 4, DuskTown.NONE);
        lacks(x, 2, 0, 3, 10, 0);
        lacks(x, 2, 0, 3, 11, DuskTown.NONE);
        x.say(3, 0, 0, 0);
        lacks(x, 2, 0, 3, 10, 0);
        lacks(x, 2, 0, 3, 11, DuskTown.NONE);
    }

    // "NoSuchElementException: also no such DAY (0 to 99), HOUR."
    private static void noSuchPersonPromiseDayHour() {
        DuskTown x = Check.town("people 3;promise 0 1 at 0;promise 0 1 at 0;");
        int[] lasts = {2, 1, 99, 11};
        for (int which = 0; which < 4; which++) {
            for (int wrong : new int[] {-1, lasts[which] + 1, Integer.MIN_VALUE, Integer.MAX_VALUE}) {
                int[] asked = {0, 0, 0, 0};
                asked[which] = wrong;
                String what = "(" + asked[0] + ", " + asked[1] + ", " + asked[2] + ", " + asked[3] + ")";
                Check.missing("tale" + what, () -> x.tale(asked[0], asked[1], asked[2], asked[3]));
                Check.missing("lacks" + what, () -> x.lacks(asked[0], asked[1], asked[2], asked[3]));
            }
        }
        tale(x, 2, 1, 99, 11, FALSE);
        lacks(x, 2, 1, 99, 11, 0);
        tale(x, 0, 0, 0, 0, TRUE);
        x.days(100);
        tale(x, 2, 1, 99, 11, FALSE);
        Check.missing("day 100, though the town stands there", () -> x.tale(0, 0, 100, 0));
        Check.missing("lacks on day 100", () -> x.lacks(0, 0, 100, 0));
        DuskTown none = new DuskTown();
        Check.missing("a new object's tale", () -> none.tale(0, 0, 0, 0));
        Check.missing("a new object's lack", () -> none.lacks(0, 0, 0, 0));
    }

    // the last of 6 PEOPLE and of 12 PROMISES
    private static void fullTown() {
        DuskTown x = Check.town("people 6;meet 4 5 at 3;meet 1 0 at 3;" + "promise 0 1 at 0;".repeat(10)
            + "promise 1 4 day 2 at 0;promise 1 4 at 0;");
        x.say(0, 0, 0, 11);
        x.say(0, 1, 0, 11);
        tale(x, 5, 11, 0, 2, FALSE);
        lacks(x, 5, 11, 0, 2, 1);
        tale(x, 5, 11, 0, 3, TRUE);
        tale(x, 0, 11, 0, 2, FALSE);
        tale(x, 0, 11, 0, 3, TRUE);
        tale(x, 3, 11, 99, 11, FALSE);
        lacks(x, 3, 11, 99, 11, 0);
        lacks(x, 3, 11, 0, 2, 1);
        // nobody MAY have heard promise 10 then, whoever MAY have heard 11
        for (int person = 0; person < 6; person++) {
            tale(x, person, 10, 1, 11, FALSE);
            lacks(x, person, 10, 1, 11, DuskTown.NONE);
        }
        DuskTown y = Check.town("people 6;" + "promise 0 1 day 9 at 0;".repeat(12));
        lacks(y, 5, 11, 8, 11, DuskTown.NONE);
        lacks(y, 5, 11, 9, 0, 0);
    }

    private static void askingChangesNothing() {
        DuskTown x = Check.town("people 3;meet 0 2 at 5;promise 0 1 at 0;promise 0 1 day 1 at 0 on 0;");
        x.say(EACH, 0, 0, 0);
        x.days(1);
        String before = Look.all(x);
        for (int day = 0; day < 100; day += 9) {
            x.tale(2, 1, day, 11);
            x.lacks(2, 1, day, 0);
        }
        Check.same("behind tales", Look.all(x), before);
        Check.same("the town goes on as it would", x.days(1), 1);
        Check.same("and pays as it would", x.count(5), 2);
    }
}
