/** Promises 17 and 18: tales, and which meeting lacks. */
public final class TaleTest {
    private static final int EACH = DuskTown.NONE;
    private static final String TOWN = "people 5;meet 1 2 at 4;meet 2 3 at 2;promise 0 1 day 1 at 4;promise 0 1 at 0 on 0;";

    public static void main(String[] args) {
        promise17Truth();
        promise17Sayings();
        promise17NewTown();
        promise17Wrong();
        promise18Lacks();
        promise18Wrong();
        Check.end("TaleTest");
    }

    private static void tale(DuskTown x, int person, int day, int hour, int due) {
        Check.same("tale(" + person + ", 0, " + day + ", " + hour + ")", x.tale(person, 0, day, hour), due);
    }

    private static void promise17Truth() {
        DuskTown x = Check.town(TOWN);
        tale(x, 0, 1, 3, 0);
        tale(x, 0, 1, 4, 2);
        tale(x, 1, 1, 4, 2);
        tale(x, 0, 0, 11, 0);
        tale(x, 0, 99, 11, 2);
        tale(x, 2, 1, 3, 0);
        tale(x, 2, 1, 4, 1);
        tale(x, 3, 1, 11, 0);
        tale(x, 3, 2, 1, 0);
        tale(x, 3, 2, 2, 1);
        tale(x, 3, 99, 0, 1);
        tale(x, 4, 99, 11, 0);
        // It leans on one that is not made then, so nobody heard it, whoever may have.
        Check.same("0 may have heard what was not made", x.tale(0, 1, 0, 0), 1);
    }

    private static void promise17Sayings() {
        DuskTown x = Check.town(TOWN);
        x.say(EACH, 0, 0, 0);
        x.say(2, 1, 0, 0);
        tale(x, 2, 1, 3, 0);
        tale(x, 2, 1, 4, 2);
        tale(x, 3, 2, 1, 0);
        tale(x, 3, 2, 2, 2);
        x.unsay();
        tale(x, 3, 2, 2, 1);
        x.say(3, 1, 0, 0);
        tale(x, 3, 2, 2, 1);
        tale(x, 3, 3, 2, 2);
        tale(x, 3, 99, 11, 2);
        Check.same("the town has not gone on", x.count(4), 0);
        Check.same("nothing was paid", x.count(5), 0);
        x.days(50);
        tale(x, 3, 2, 2, 1);
        x.unsay();
        x.image();
        x.say(2, 1, 0, 0);
        tale(x, 3, 2, 2, 2);
        x.restore();
        tale(x, 3, 2, 2, 1);
    }

    private static void promise17NewTown() {
        DuskTown x = Check.town("people 3;meet 0 2 at 11;promise 0 1 at 3;");
        x.say(EACH, 0, 0, 0);
        tale(x, 2, 0, 10, 0);
        tale(x, 2, 0, 11, 2);
        Check.same("the same town anew", Check.tell(x, "people 3;meet 0 2 at 11;promise 0 1 at 3;"), 0);
        tale(x, 2, 0, 11, 1);
        Check.same("another town", Check.tell(x, "people 3;meet 0 2 at 3;promise 0 1 at 4;"), 0);
        tale(x, 0, 0, 3, 0);
        tale(x, 2, 0, 11, 0);
        tale(x, 2, 1, 3, 1);
    }

    private static void promise17Wrong() {
        DuskTown x = Check.town(TOWN);
        Check.missing("person -1", () -> x.tale(-1, 0, 0, 0));
        Check.missing("person 5", () -> x.tale(5, 0, 0, 0));
        Check.missing("promise -1", () -> x.tale(0, -1, 0, 0));
        Check.missing("promise 2", () -> x.tale(0, 2, 0, 0));
        Check.missing("day -1", () -> x.tale(0, 0, -1, 0));
        Check.missing("day 100", () -> x.tale(0, 0, 100, 0));
        Check.missing("hour -1", () -> x.tale(0, 0, 0, -1));
        Check.missing("hour 12", () -> x.tale(0, 0, 0, 12));
    }

    private static void lacks(DuskTown x, int person, int day, int hour, int due) {
        Check.same("lacks(" + person + ", 0, " + day + ", " + hour + ")", x.lacks(person, 0, day, hour), due);
    }

    private static void promise18Lacks() {
        DuskTown x = Check.town(TOWN);
        lacks(x, 0, 1, 3, DuskTown.NONE);
        lacks(x, 3, 1, 3, DuskTown.NONE);
        lacks(x, 3, 1, 4, 0);
        lacks(x, 3, 2, 2, DuskTown.NONE);
        lacks(x, 4, 99, 11, 0);
        lacks(x, 0, 1, 4, DuskTown.NONE);
        DuskTown y = Check.town("people 4;meet 0 3 at 0;promise 2 3 at 5;");
        lacks(y, 0, 0, 11, 2);
        lacks(y, 1, 1, 0, 0);
        lacks(y, 0, 1, 0, DuskTown.NONE);
    }

    private static void promise18Wrong() {
        DuskTown x = Check.town(TOWN);
        Check.missing("person -1", () -> x.lacks(-1, 0, 0, 0));
        Check.missing("person 5", () -> x.lacks(5, 0, 0, 0));
        Check.missing("promise -1", () -> x.lacks(0, -1, 0, 0));
        Check.missing("promise 2", () -> x.lacks(0, 2, 0, 0));
        Check.missing("day -1", () -> x.lacks(0, 0, -1, 0));
        Check.missing("day 100", () -> x.lacks(0, 0, 100, 0));
        Check.missing("hour -1", () -> x.lacks(0, 0, 0, -1));
        Check.missing("hour 12", () -> x.lacks(0, 0, 0, 12));
    }
}
