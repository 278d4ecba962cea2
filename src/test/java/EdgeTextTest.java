/**
 * Promises 2 to 4 and the Terms of a text: for each sentence that names a boundary the last text
 * that is allowed and the first that is not, at both ends, and what stays of the town before.
 */
public final class EdgeTextTest {
    private static final int EACH = DuskTown.NONE;
    private static final String PROMISE = "promise 0 1 at 0;";
    private static final String MEET = "meet 0 1 at 0;";

    public static void main(String[] args) {
        peopleTwoToSix();
        peopleTwoWithout();
        priceNoughtTo99();
        priceOneWithout();
        meetingsAtMostTwelve();
        twoUnlikePeople();
        hourNoughtToEleven();
        promisesAtMostTwelve();
        dayNoughtTo99();
        leaningOnOthersToldAhead();
        textOf700Bytes();
        wordsTheLongestRow();
        numbersOfThreeDigits();
        blanksCountForNothing();
        bytesThatAreNoToken();
        linesAnyNumberOfTimes();
        whatStandsPerhaps();
        peopleTheFirstLine();
        faultFirstAlongTheText();
        faultLeastOfOneToken();
        textEndsTooSoon();
        textEndsInAWord();
        onlyTheFirstBytes();
        tapeOfSevenHundred();
        bytesHighestFirst();
        townWithAFault();
        townThatThrows();
        townAllAnew();
        latestFault();
        Check.end("EdgeTextTest");
    }

    /** A town with something in all of its places: a day gone by, sayings, a row, an image. */
    private static DuskTown lived() {
        DuskTown x = Check.town("people 3;price 2 7;meet 0 2 at 3;promise 0 1 at 0;promise 1 2 day 1 at 0;");
        x.say(EACH, 0, 0, 0);
        Check.same("a day of the town before", x.days(1), 0);
        Check.same("a row of the town before", x.keep(0, 2, 0, 0), 2);
        x.image();
        return x;
    }

    /** The text's fault stands where the sign ^ is; the town before stays. */
    private static void fault(String marked, int kind) {
        int place = marked.indexOf('^');
        String text = marked.substring(0, place) + marked.substring(place + 1);
        DuskTown x = lived();
        String before = Look.town(x);
        Check.same("town of \"" + marked + "\"", Check.tell(x, text), kind);
        Check.same("fault() of \"" + marked + "\"", x.fault(), place);
        Check.same("refused texts by \"" + marked + "\"", x.count(7), 1);
        Check.same("the town before \"" + marked + "\"", Look.town(x), before);
    }

    private static DuskTown good(String text) {
        DuskTown x = lived();
        Check.same("town of \"" + text + "\"", Check.tell(x, text), 0);
        Check.same("fault() of \"" + text + "\"", x.fault(), DuskTown.NONE);
        Check.same("refused texts by \"" + text + "\"", x.count(7), 0);
        return x;
    }

    // "A TOWN has PEOPLE 0, 1 .. (2 to 6 ..)"
    private static void peopleTwoToSix() {
        for (int people = 2; people <= 6; people++) {
            int last = people - 1;
            DuskTown x = good("people " + people + ";price " + last + " 9;");
            Check.same("people", x.count(0), people);
            Check.same("the last one's price", x.price(last), 9);
            Check.missing("one more", () -> x.price(last + 1));
            fault("people " + people + ";price ^" + people + " 9;", 3);
            fault("people " + people + ";meet ^" + people + " 0 at 0;", 3);
            fault("people " + people + ";meet 0 ^" + people + " at 0;", 3);
            fault("people " + people + ";promise ^" + people + " 0 at 0;", 3);
            fault("people " + people + ";promise 0 ^" + people + " at 0;", 3);
        }
        fault("people ^0;", 2);
        fault("people ^1;", 2);
        fault("people ^7;", 2);
        fault("people ^999;", 2);
    }

    // ".. 2 without)"
    private static void peopleTwoWithout() {
        for (String text : new String[] {"", "price 1 4;", "meet 1 0 at 0;", "promise 1 0 at 0;"}) {
            Check.same("people of \"" + text + "\"", good(text).count(0), 2);
        }
        fault("price ^2 4;", 3);
        fault("meet ^2 0 at 0;", 3);
        fault("meet 0 ^2 at 0;", 3);
        fault("promise ^2 0 at 0;", 3);
        fault("promise 0 ^2 at 0;", 3);
    }

    // "each with a PRICE (0 to 99 ..)"
    private static void priceNoughtTo99() {
        Check.same("price 0", good("price 1 0;").price(1), 0);
        Check.same("price 99", good("price 1 99;").price(1), 99);
        fault("price 1 ^100;", 2);
        fault("price 1 ^999;", 2);
    }

    // ".. 1 without)"
    private static void priceOneWithout() {
        DuskTown x = good("people 6;price 3 0;");
        int[] due = {1, 1, 1, 0, 1, 1};
        for (int person = 0; person < 6; person++) {
            Check.same("price(" + person + ")", x.price(person), due[person]);
        }
    }

    // "MEETINGS 0, 1 .. (at most 12)"; "2 .. the first TOKEN of the 13th MEETING"
    private static void meetingsAtMostTwelve() {
        Check.same("no meeting", good("people 6;").count(1), 0);
        DuskTown x = good(MEET.repeat(11) + "meet 1 0 at 11;");
        Check.same("twelve", x.count(1), 12);
        Check.same("the twelfth's first", x.meeting(11, 0), 1);
        Check.same("the twelfth's hour", x.meeting(11, 2), 11);
        Check.missing("meeting 12", () -> x.meeting(12, 0));
        fault(MEET.repeat(12) + "^meet 0 1 at 0;", 2);
        fault(MEET.repeat(12) + "^meet", 2);
        fault(MEET.repeat(12) + "^meet 0 0 at 99;", 2);
        fault(MEET.repeat(12) + PROMISE + " \n^meet 0 1 at 0;", 2);
        fault(MEET.repeat(12) + "^meets 0 1 at 0;", 1);
        Check.same("other lines behind twelve", good(MEET.repeat(12) + "price 0 3;" + PROMISE).price(0), 3);
    }

    // "two unlike PEOPLE at an HOUR"; "4 a second PERSON that is the first"
    private static void twoUnlikePeople() {
        fault("meet 0 ^0 at 0;", 4);
        fault("meet 1 ^001 at 0;", 4);
        fault("people 6;meet 5 ^5 at 0;", 4);
        fault("promise 0 ^0 at 0;", 4);
        fault("people 6;promise 5 ^05 at 0;", 4);
        DuskTown x = good("people 6;meet 5 4 at 0;meet 4 5 at 0;meet 5 4 at 0;promise 5 4 at 0;");
        Check.same("the same ones again are fine", x.count(1), 3);
        Check.same("the second one", x.meeting(1, 1), 5);
    }

    // "at an HOUR (0 to 11)"
    private static void hourNoughtToEleven() {
        DuskTown x = good("meet 0 1 at 0;meet 0 1 at 11;promise 0 1 at 0;promise 0 1 at 11;");
        Check.same("meeting at 0", x.meeting(0, 2), 0);
        Check.same("meeting at 11", x.meeting(1, 2), 11);
        Check.same("promise at 0", x.promise(0, 3), 0);
        Check.same("promise at 11", x.promise(1, 3), 11);
        fault("meet 0 1 at ^12;", 2);
        fault("meet 0 1 at ^999;", 2);
        fault("promise 0 1 at ^12;", 2);
        fault("promise 0 1 day 3 at ^12;", 2);
    }

    // "PROMISES 0, 1 .. (at most 12)"; "2 .. the 13th PROMISE"
    private static void promisesAtMostTwelve() {
        Check.same("no promise", good("people 6;").count(2), 0);
        DuskTown x = good(PROMISE.repeat(11) + "promise 1 0 day 99 at 11 on 10;");
        Check.same("twelve", x.count(2), 12);
        Check.same("the twelfth is by", x.promise(11, 0), 1);
        Check.same("the twelfth leans on", x.promise(11, 4), 1 << 10);
        Check.missing("promise 12", () -> x.promise(12, 0));
        fault(PROMISE.repeat(12) + "^promise 0 1 at 0;", 2);
        fault(PROMISE.repeat(12) + "^promise", 2);
        fault(PROMISE.repeat(12) + "^promise 9 9 at 99;", 2);
        fault(PROMISE.repeat(12) + MEET + "\n ^promise 0 1 at 0;", 2);
        fault(PROMISE.repeat(12) + "^promised 0 1 at 0;", 1);
        Check.same("other lines behind twelve", good(PROMISE.repeat(12) + "price 0 3;" + MEET).price(0), 3);
    }

    // "made on a DAY (0 to 99)"; "DAY 0 without"
    private static void dayNoughtTo99() {
        DuskTown x = good("promise 0 1 day 0 at 5;promise 0 1 day 99 at 5;promise 0 1 at 5;");
        Check.same("day 0", x.promise(0, 2), 0);
        Check.same("day 99", x.promise(1, 2), 99);
        Check.same("day 0 without, whatever the one ahead has", x.promise(2, 2), 0);
        fault("promise 0 1 day ^100 at 5;", 2);
        fault("promise 0 1 day ^999 at 5;", 2);
    }

    // "leaning on others (told ahead of it)"; "3 .. a PROMISE that there isn't"; "4 .. leans on already"
    private static void leaningOnOthersToldAhead() {
        DuskTown x = good(PROMISE.repeat(11) + "promise 0 1 at 0 on 10 0 9 1 8 2 7 3 6 4 5;");
        Check.same("on all ahead of it", x.promise(11, 4), (1 << 11) - 1);
        Check.same("on nothing", x.promise(10, 4), 0);
        DuskTown y = good("promise 0 1 day 99 at 11;promise 0 1 at 0 on 0;promise 0 1 at 0 on 1 000;");
        Check.same("told ahead, though made behind it", y.promise(1, 4), 1);
        Check.same("on both", y.promise(2, 4), 3);
        fault("promise 0 1 at 0 on ^0;", 3);
        fault(PROMISE + "promise 0 1 at 0 on ^1;", 3);
        fault(PROMISE + "promise 0 1 at 0 on 0 ^1;", 3);
        fault(PROMISE + "promise 0 1 at 0 on ^2;" + PROMISE, 3);
        fault(PROMISE.repeat(11) + "promise 0 1 at 0 on 10 ^11;", 3);
        fault(PROMISE.repeat(11) + "promise 0 1 at 0 on ^12;", 3);
        fault(PROMISE.repeat(11) + "promise 0 1 at 0 on ^32;", 3);
        fault(PROMISE + "promise 0 1 at 0 on ^999;", 3);
        // 32 and 33 are no 0 and 1 that went around
        fault(PROMISE + "promise 0 1 at 0 on 0 ^32;", 3);
        fault(PROMISE + PROMISE + "promise 0 1 at 0 on 0 1 ^33;", 3);
        fault(PROMISE + "promise 0 1 at 0 on 0 ^0;", 4);
        fault(PROMISE + PROMISE + "promise 0 1 at 0 on 1 0 ^001;", 4);
        fault(PROMISE.repeat(11) + "promise 0 1 at 0 on 0 1 2 3 4 5 6 7 8 9 10 ^10;", 4);
        fault(PROMISE.repeat(11) + "promise 0 1 at 0 on 0 1 2 3 4 5 6 7 8 9 10 ^11;", 3);
        fault(PROMISE.repeat(11) + "promise 0 1 at 0 on 0 1 2 3 4 5 6 7 8 9 10 ^0000;", 2);
    }

    // "A TEXT of at most 700 bytes tells it."
    private static void textOf700Bytes() {
        DuskTown x = new DuskTown();
        String text = "people 6;" + " ".repeat(700 - 9 - 10) + "price 5 8;";
        Check.same("700 bytes", text.length(), 700);
        Check.same("a town of 700 bytes", Check.tell(x, text), 0);
        Check.same("told by its last bytes", x.price(5), 8);
        String cut = "people 6;" + " ".repeat(700 - 9 - 9) + "price 5 8";
        Check.same("700 bytes that end too soon", Check.tell(x, cut), 1);
        Check.same("their place", x.fault(), 700);
        Check.same("700 blanks", Check.tell(x, " ".repeat(700)), 0);
        Check.same("700 signs ;", Check.tell(x, ";".repeat(700)), 1);
        Check.same("700 letters", Check.tell(x, "p".repeat(700)), 1);
        Check.same("700 digits", Check.tell(x, "7".repeat(700)), 1);
        Check.same("their place", x.fault(), 0);
        Check.same("a number of many digits", Check.tell(x, "people " + "0".repeat(693)), 2);
        Check.same("its place", x.fault(), 7);
    }

    // "TOKENS: words (a .. z, the longest row)"
    private static void wordsTheLongestRow() {
        fault("^peoplemeet 3;", 1);
        fault("^peopl 3;", 1);
        fault("^zeople 3;", 1);
        fault("^aeople 3;", 1);
        fault("^peoplez 3;", 1);
        fault("^peoplea 3;", 1);
        fault("^deet 0 1 at 3;", 1);
        fault("meet 0 1 ^bt 3;", 1);
        fault("^peoples 3;", 1);
        fault("^e;", 1);
        fault("meet 0 1 ^att 3;", 1);
        fault("meet 0 1 ^a t 3;", 1);
        fault("promise 0 1 ^dayat 3;", 1);
        fault("promise 0 1 at 3 ^o;", 1);
        fault("promise 0 1 at 3 ^onn 0;", 1);
        fault("people 3;^pri ce 0 1;", 1);
        Check.same("a word ends where digits begin", good("people6;price5 4;").price(5), 4);
        Check.same("and begins where they end", good("meet 0 1at 7;").meeting(0, 2), 7);
        Check.same("and ends at a blank", good("meet\n0 1\nat\n7;").meeting(0, 2), 7);
    }

    // "NUMBERS (1 to 3 digits)"; "2 .. a NUMBER of 4 digits or more"
    private static void numbersOfThreeDigits() {
        DuskTown x = good("people 006;price 005 09;price 4 009;meet 000 01 at 011;promise 0 1 day 099 at 000;");
        Check.same("people", x.count(0), 6);
        Check.same("price", x.price(5), 9);
        Check.same("price of three digits", x.price(4), 9);
        Check.same("hour", x.meeting(0, 2), 11);
        Check.same("day", x.promise(0, 2), 99);
        fault("people ^0006;", 2);
        fault("people ^1234567890123456789012;", 2);
        fault("people 6;price ^0005 1;", 2);
        fault("people 6;price 5 ^0001;", 2);
        fault("meet ^0000 1 at 0;", 2);
        fault("meet 0 ^0001 at 0;", 2);
        fault("meet 0 1 at ^0000;", 2);
        fault("promise ^0000 1 at 0;", 2);
        fault("promise 0 ^0001 at 0;", 2);
        fault("promise 0 1 day ^0000 at 0;", 2);
        fault("promise 0 1 at ^0000;", 2);
        fault(PROMISE + "promise 0 1 at 0 on ^0000;", 2);
        // 4294967296 and what comes behind it would be small numbers, if they went around
        fault("people ^4294967299;", 2);
        fault("price 0 ^4294967296;", 2);
    }

    // "blanks (32, 10) between them, which count for nothing"
    private static void blanksCountForNothing() {
        DuskTown x = good("\n\n  people\n3 ;\nprice 2  5;meet\n\n0 1 at 4\n;promise 0 1 day\n2 at 3;"
            + " promise 0 1 at 0 on\n0\n;\n ");
        Check.same("people", x.count(0), 3);
        Check.same("price", x.price(2), 5);
        Check.same("hour", x.meeting(0, 2), 4);
        Check.same("day", x.promise(0, 2), 2);
        Check.same("leans", x.promise(1, 4), 1);
        DuskTown y = good("people3;price2 5;meet0 1at4;promise0 1day2at3;promise0 1at0on0;");
        Check.same("only between two numbers are they needed", Look.town(y), Look.town(x));
        fault("people ^1 2;", 2);
        fault("meet 0 1 at 1 ^1;", 1);
        fault("meet 01 ^at 1;", 1);
    }

    // "1 a TOKEN that .. is none"
    private static void bytesThatAreNoToken() {
        for (int sign = 0; sign < 256; sign++) {
            boolean blank = sign == 32 || sign == 10;
            boolean token = sign == ';' || sign >= 'a' && sign <= 'z' || sign >= '0' && sign <= '9';
            String one = String.valueOf((char) sign);
            if (blank) {
                Check.same("blank " + sign, good("people" + one + "3;" + one).count(0), 3);
            } else {
                fault("people 3;^" + one, 1);
            }
            if (!blank && !token) {
                fault("people ^" + one + "3;", 1);
                fault("people 3^" + one + ";", 1);
                fault("people^" + one + " 3;", 1);
            }
        }
        fault("^People 3;", 1);
        fault("meet 0 1 ^AT 3;", 1);
        fault("^peoplE 3;", 1);
    }

    // "TOWN: LINE*."
    private static void linesAnyNumberOfTimes() {
        DuskTown x = good("");
        Check.same("no line: people", x.count(0), 2);
        Check.same("no line: meetings", x.count(1), 0);
        Check.same("blanks alone", good("\n \n ").count(0), 2);
        Check.same("the latest price counts", good("price 0 1;".repeat(69) + "price 0 5;").price(0), 5);
        fault("^;", 1);
        fault("people 3;^;", 1);
        fault("price 0 1;^;price 0 1;", 1);
        fault("^3;", 1);
        fault("^at 3;", 1);
        fault("^day 3;", 1);
        fault("^on 3;", 1);
    }

    // "[ ] perhaps, * any number of times": each place of each line takes what may stand there alone
    private static void whatStandsPerhaps() {
        fault("people ^;", 1);
        fault("people 3 ^3;", 1);
        fault("people ^people 3;", 1);
        fault("price ^;", 1);
        fault("price 0 ^;", 1);
        fault("price 0 1 ^1;", 1);
        fault("price 0 ^at 1;", 1);
        fault("meet ^at 0;", 1);
        fault("meet 0 ^at 0;", 1);
        fault("meet 0 1 ^0;", 1);
        fault("meet 0 1 ^day 0 at 0;", 1);
        fault("meet 0 1 ^;", 1);
        fault("meet 0 1 at ^;", 1);
        fault("meet 0 1 at 0 ^on 0;", 1);
        fault("promise ^;", 1);
        fault("promise 0 ^day 0 at 0;", 1);
        fault("promise 0 1 ^;", 1);
        fault("promise 0 1 ^on 0;", 1);
        fault("promise 0 1 day ^at 0;", 1);
        fault("promise 0 1 day ^;", 1);
        fault("promise 0 1 day 0 ^;", 1);
        fault("promise 0 1 day 0 ^day 0 at 0;", 1);
        fault("promise 0 1 day 0 ^0 at 0;", 1);
        fault("promise 0 1 at ^;", 1);
        fault("promise 0 1 at 0 ^day 0;", 1);
        fault("promise 0 1 at 0 ^0;", 1);
        fault("promise 0 1 at 0 ^at 0;", 1);
        fault(PROMISE + "promise 0 1 at 0 on ^;", 1);
        fault(PROMISE + "promise 0 1 at 0 on 0 ^on 0;", 1);
        fault(PROMISE + "promise 0 1 at 0 on 0 ^day 0;", 1);
        fault("people 3 ^price 0 1;", 1);
    }

    // "'people' is the first LINE, if it is told"; "5 'people' that isn't the first LINE"
    private static void peopleTheFirstLine() {
        Check.same("the first line, behind blanks", good(" \n people 4;").count(0), 4);
        fault("people 3;^people 3;", 5);
        fault("price 0 1;^people 3;", 5);
        fault(MEET + "\n^people 3;", 5);
        fault(PROMISE + "^people", 5);
        fault(PROMISE + "^people 99;", 5);
        fault(MEET.repeat(12) + PROMISE.repeat(12) + "^people 3;", 5);
    }

    // "FAULTS, the first along the text, at a TOKEN's first byte"
    private static void faultFirstAlongTheText() {
        fault("price 0 ^100;x", 2);
        fault("price ^2 100;people 3;", 3);
        fault("meet 0 ^0 at 12;", 4);
        fault("price 0 1;^people 1;x", 5);
        fault("^x people 1;", 1);
        fault("meet ^7 7 at 77;", 3);
        fault("promise 0 1 day ^100 at 12 on 9;", 2);
        fault("promise 0 1 at 0 on ^9 9 9999;", 3);
        fault("  \n\n  price  \n ^002 100;", 3);
    }

    // ".. of one TOKEN the least"
    private static void faultLeastOfOneToken() {
        fault("^1234;", 1);
        fault("meet 0 1 ^1234;", 1);
        fault("meet 0 1 at 0 ^0000;", 1);
        fault("price ^9999 1;", 2);
        fault("meet 0 ^0000 at 1;", 2);
        fault("meet 0 ^2 at 1;", 3);
        fault("people 3;meet 2 ^002 at 1;", 4);
        fault(PROMISE + "promise 0 1 at 0 on 0 ^0000;", 2);
        fault("meet ^people 0 at 1;", 1);
        fault("price 0 ^people;", 1);
    }

    // "(the text's length where it ends too soon)"
    private static void textEndsTooSoon() {
        String[] lines = {"people", "people 3", "price", "price 0", "price 0 1", "meet", "meet 0", "meet 0 1", "meet 0 1 at",
            "meet 0 1 at 2", "promise", "promise 0", "promise 0 1", "promise 0 1 day", "promise 0 1 day 2",
            "promise 0 1 day 2 at", "promise 0 1 at", "promise 0 1 at 2", PROMISE + "promise 0 1 at 0 on",
            PROMISE + "promise 0 1 at 0 on 0"};
        for (String line : lines) {
            fault(line + "^", 1);
            fault(line + " ^", 1);
            fault(line + "\n \n^", 1);
        }
    }

    // a word that the text's end cuts is another word: it can't stand there, and its first byte tells so
    private static void textEndsInAWord() {
        for (String word : new String[] {"people", "price", "meet", "promise"}) {
            for (int cut = 1; cut < word.length(); cut++) {
                fault("^" + word.substring(0, cut), 1);
            }
        }
        fault("meet 0 1 ^a", 1);
        fault("promise 0 1 ^da", 1);
        fault("promise 0 1 ^a", 1);
        fault(PROMISE + "promise 0 1 at 0 ^o", 1);
        // a number that is cut is a number still
        fault("price 0 9^", 1);
        fault("price 0 ^100", 2);
        fault("price 0 ^0000", 2);
    }

    // "The tape's first n bytes (it is empty then) are a TOWN"
    private static void onlyTheFirstBytes() {
        String text = "people 5;people 3;x1";
        int[] due = {0, 1, 1, 1, 1, 1, 1, 1, 1, 0, 1, 1, 1, 1, 1, 5, 5, 5, 5, 5, 5};
        int[] place = {-1, 0, 0, 0, 0, 0, 6, 7, 8, -1, 9, 9, 9, 9, 9, 9, 9, 9, 9, 9, 9};
        for (int n = 0; n <= 20; n++) {
            DuskTown x = new DuskTown();
            Check.feedText(x, text);
            Check.same("town(" + n + ")", x.town(n), due[n]);
            Check.same("fault() of town(" + n + ")", x.fault(), place[n]);
            Check.same("people by town(" + n + ")", x.count(0), n == 9 ? 5 : 2);
            Check.same("the tape behind town(" + n + ")", x.count(6), 0);
            Check.illegal("town(1) behind town(" + n + ")", () -> x.town(1));
            Check.same("the tape begins anew", Check.tell(x, "people 4;"), 0);
            Check.same("people anew", x.count(0), 4);
        }
    }

    // "NONE, and none come, if it would have more than 700."
    private static void tapeOfSevenHundred() {
        DuskTown x = new DuskTown();
        Check.same("no bytes", x.count(6), 0);
        for (int i = 1; i <= 35; i++) {
            Check.same("feed " + i, x.feed(0x20202020, 0x20202020, 0x20202020, 0x20202020, 0x20202020), 20 * i);
            Check.same("bytes behind feed " + i, x.count(6), 20 * i);
        }
        for (int i = 0; i < 3; i++) {
            Check.same("feed of a full tape", x.feed(-1, -1, -1, -1, -1), DuskTown.NONE);
            Check.same("bytes of a full tape", x.count(6), 700);
        }
        Check.same("that is no refused text", x.count(7), 0);
        Check.illegal("town(701)", () -> x.town(701));
        Check.same("none of those bytes came: blanks alone", x.town(700), 0);
        Check.same("feed of an empty tape", x.feed(0, 0, 0, 0, 0), 20);
    }

    // "Twenty bytes come behind the tape, of each number the highest first"
    private static void bytesHighestFirst() {
        for (int at = 0; at < 20; at++) {
            // blanks, with a sign of the highest bit and of no other at one place
            int[] words = {0x20202020, 0x20202020, 0x20202020, 0x20202020, 0x20202020};
            int shift = 24 - at % 4 * 8;
            words[at / 4] = words[at / 4] & ~(255 << shift) | 128 << shift;
            DuskTown x = new DuskTown();
            x.feed(0x20202020, 0x20202020, 0x20202020, 0x20202020, 0x20202020);
            Check.same("feed", x.feed(words[0], words[1], words[2], words[3], words[4]), 40);
            Check.same("a byte that is no token at " + at, x.town(40), 1);
            Check.same("its place", x.fault(), 20 + at);
        }
    }

    // "or the FAULT (all stays, but STATUS)"
    private static void townWithAFault() {
        DuskTown x = lived();
        String before = Look.town(x);
        String[] texts = {"x", "people 1;", "price 2 1;", "meet 0 0 at 1;", MEET + "people 3;"};
        int[] places = {0, 7, 6, 7, 14};
        for (int i = 0; i < texts.length; i++) {
            Check.same("town of \"" + texts[i] + "\"", Check.tell(x, texts[i]), i + 1);
            Check.same("its place", x.fault(), places[i]);
            Check.same("status 0", x.count(7), i + 1);
            Check.same("status 1", x.count(8), 0);
            Check.same("the town stays", Look.town(x), before);
        }
        Check.same("the sayings stay", x.days(1), 1);
        Check.same("and fall not", x.promise(0, 5), 1);
        Check.same("the image stays", x.restore(), true);
        Check.same("the town is as in the image", Look.town(x), before);
        Check.same("status 0 too", x.count(7), 0);
        // what the text tells ahead of its fault is told to nobody
        Check.same("a late fault", Check.tell(x, "people 6;price 0 9;price 1 9;" + MEET + PROMISE + "x"), 1);
        Check.same("the town stays", Look.town(x), before);
        Check.same("a good text behind it", Check.tell(x, PROMISE), 0);
        Check.same("has people of its own", x.count(0), 2);
        Check.same("and prices of its own", x.price(1), 1);
        Check.same("and no meeting", x.count(1), 0);
        Check.same("and one promise", x.count(2), 1);
    }

    // "IllegalArgumentException: the tape has not so many, n below 0 (nothing changes)."
    private static void townThatThrows() {
        DuskTown x = lived();
        Check.tell(x, "people 9;");
        Check.feedText(x, "people 4;");
        String before = Look.all(x);
        for (int n : new int[] {-1, 21, 700, 701, Integer.MIN_VALUE, Integer.MAX_VALUE}) {
            Check.illegal("town(" + n + ")", () -> x.town(n));
        }
        Check.same("nothing changes", Look.all(x), before);
        Check.same("the place of the fault ahead", x.fault(), 7);
        Check.same("the bytes are still there", x.town(20), 0);
        Check.same("and tell four people", x.count(0), 4);
        Check.illegal("town(1) of an empty tape", () -> x.town(1));
        Check.same("town(0) of an empty tape", x.town(0), 0);
        Check.same("tells two", x.count(0), 2);
    }

    // "all anew, at the beginning of DAY 0 .. SAYINGS, PAID, the KEEPING, the image are gone."
    private static void townAllAnew() {
        DuskTown x = lived();
        x.say(EACH, 0, 2, 0);
        Check.tell(x, "x");
        x.days(2);
        Check.same("a new town", Check.tell(x, "people 3;price 2 7;meet 0 2 at 3;promise 0 1 at 0;"), 0);
        int[] due = {3, 1, 1, 0, 0, 0, 0, 1, 1};
        for (int what = 0; what < due.length; what++) {
            Check.same("count(" + what + ")", x.count(what), due[what]);
        }
        int[] promise = {0, 1, 0, 0, 0, 0, -1, 0};
        for (int what = 0; what < promise.length; what++) {
            Check.same("promise(0, " + what + ")", x.promise(0, what), promise[what]);
        }
        Check.missing("promise 1 of the town before", () -> x.promise(1, 0));
        Check.missing("the row", () -> x.kept(0));
        Check.same("unsay()", x.unsay(), DuskTown.NONE);
        Check.same("restore()", x.restore(), false);
        Check.same("2 had not heard it", x.tale(2, 0, 99, 11), 1);
        Check.same("no saying keeps it", x.days(1), 1);
        // nor does a promise's number say anything of the one that had it before
        Check.same("a town with as many promises", Check.tell(x, "people 3;meet 1 2 at 5;promise 2 1 day 4 at 3;promise 2 1 at 4;"), 0);
        int[][] due2 = {{2, 1, 4, 3, 0, 0, -1, 0}, {2, 1, 0, 4, 0, 0, -1, 0}};
        for (int which = 0; which < 2; which++) {
            for (int what = 0; what < 8; what++) {
                Check.same("promise(" + which + ", " + what + ") anew", x.promise(which, what), due2[which][what]);
            }
        }
        // an empty text is a town too
        DuskTown y = lived();
        Check.same("town(0)", y.town(0), 0);
        int[] empty = {2, 0, 0, 0, 0, 0, 0, 0, 0};
        for (int what = 0; what < empty.length; what++) {
            Check.same("count(" + what + ") of town(0)", y.count(what), empty[what]);
        }
        Check.same("restore() behind town(0)", y.restore(), false);
    }

    // "The place of the latest town()'s FAULT; NONE without."
    private static void latestFault() {
        DuskTown x = new DuskTown();
        Check.same("without a town", x.fault(), DuskTown.NONE);
        Check.tell(x, "price 0 100;");
        Check.same("the first", x.fault(), 8);
        Check.same("asked again", x.fault(), 8);
        Check.tell(x, " x");
        Check.same("the second", x.fault(), 1);
        x.image();
        Check.tell(x, "people 3;");
        Check.same("behind a good one", x.fault(), DuskTown.NONE);
        Check.tell(x, "people 33;");
        x.image();
        Check.tell(x, "people 3;  x");
        x.restore();
        Check.same("an image keeps it not", x.fault(), 11);
    }
}
