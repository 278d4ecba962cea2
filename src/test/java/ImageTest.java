/** Promises 19 and 20: an image, and going back to it. */
public final class ImageTest {
    private static final int EACH = DuskTown.NONE;

    public static void main(String[] args) {
        promise19Image();
        promise20Restore();
        promise20Sayings();
        promise20Status();
        promise20WhatStays();
        Check.end("ImageTest");
    }

    private static DuskTown town() {
        DuskTown x = Check.town("people 3;meet 0 2 at 3;promise 0 1 at 0;promise 0 1 day 1 at 0;");
        x.say(EACH, 0, 0, 0);
        x.say(EACH, 0, 5, 0);
        x.days(1);
        return x;
    }

    private static void state(String what, DuskTown x, int... due) {
        int[] got = {x.count(3), x.count(4), x.count(5), x.count(7), x.count(8), x.promise(0, 5), x.promise(0, 6),
            x.promise(0, 7), x.promise(1, 5), x.promise(1, 6)};
        for (int i = 0; i < got.length; i++) {
            Check.same(what + ", place " + i, got[i], due[i]);
        }
    }

    private static void promise19Image() {
        DuskTown x = town();
        x.image();
        x.days(1);
        x.image();
        x.days(1);
        Check.same("restore()", x.restore(), true);
        Check.same("the latest image counts", x.count(4), 2);
        Check.same("its fallen promise", x.promise(1, 6), 1);
    }

    private static void promise20Restore() {
        DuskTown x = town();
        Check.same("restore() without an image", x.restore(), false);
        state("unchanged by that", x, 1, 1, 1, 0, 1, 1, -1, 7, 0, -1);
        x.image();
        state("unchanged by image()", x, 1, 1, 1, 0, 1, 1, -1, 7, 0, -1);
        for (int i = 0; i < 3; i++) {
            x.unsay();
            x.say(5, 0, 1, 1);
            x.say(6, 0, 1, 1);
            x.say(6, 0, 3, 1);
            Check.tell(x, "fault");
            x.days(3);
            state("before restore() " + i, x, 2, 4, 1, 1, 2, 2, 1, 0, 2, 1);
            Check.same("restore() " + i, x.restore(), true);
            state("after restore() " + i, x, 1, 1, 1, 0, 1, 1, -1, 7, 0, -1);
        }
        Check.same("days go on from there", x.days(1), 1);
        state("after that", x, 1, 2, 2, 0, 1, 1, -1, 5, 2, 1);
        DuskTown y = new DuskTown();
        y.image();
        y.days(7);
        Check.same("restore() of a new object", y.restore(), true);
        Check.same("its day", y.count(4), 0);
    }

    private static void promise20Sayings() {
        DuskTown x = Check.town("people 3;meet 0 2 at 3;meet 2 1 at 3;promise 0 1 at 0;promise 2 0 at 0;");
        x.say(EACH, 0, 0, 0);
        x.say(0, 1, 0, 1);
        x.say(1, 1, 1, 1);
        x.image();
        for (int i = 0; i < 3; i++) {
            x.unsay();
        }
        x.say(7, 1, 1, 1);
        x.say(7, 1, 1, 0);
        x.say(7, 0, 0, 0);
        x.restore();
        Check.same("all three", x.count(3), 3);
        Check.same("both stand by the first two", x.days(1), 0);
        Check.same("both stand by the first and the third", x.days(1), 0);
        Check.same("by the first alone one falls", x.days(1), 1);
        Check.same("not the first", x.promise(0, 5), 1);
        Check.same("what was paid", x.count(5), 5);
    }

    private static void promise20Status() {
        DuskTown x = town();
        Check.tell(x, "fault");
        x.say(EACH, 0, 5, 0);
        x.image();
        Check.tell(x, "fault");
        x.say(EACH, 0, 5, 0);
        Check.same("refused texts", x.count(7), 2);
        Check.same("refused sayings", x.count(8), 3);
        x.restore();
        Check.same("refused texts as in the image", x.count(7), 1);
        Check.same("refused sayings as in the image", x.count(8), 2);
    }

    private static void promise20WhatStays() {
        DuskTown x = town();
        x.image();
        Check.tell(x, " fault");
        Check.feedText(x, "on the tape");
        x.keep(0, 1, 0, 0);
        x.restore();
        Check.same("the fault's place is not in it", x.fault(), 1);
        Check.same("nor is the tape", x.count(6), 20);
        Check.same("nor is the row", x.kept(0), 1);
    }
}
