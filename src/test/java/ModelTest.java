import java.util.NoSuchElementException;
import java.util.Random;

/** Promises 1 to 20: long runs of mixed calls answer as the slow and literal model does. */
public final class ModelTest {
    private static final int NO_ELEMENT = -1001;
    private static final int NOT_LAWFUL = -1002;

    private interface Call {
        int answer();
    }

    private final Random random;
    private final DuskTown town = new DuskTown();
    private final Model model = new Model();
    private final int mostMeetings;
    private final int mostPromises;
    private final int hours;
    private final String name;
    private int calls;

    private ModelTest(String name, long seed, int mostMeetings, int mostPromises, int hours) {
        this.name = name;
        this.random = new Random(seed);
        this.mostMeetings = mostMeetings;
        this.mostPromises = mostPromises;
        this.hours = hours;
    }

    public static void main(String[] args) {
        for (int seed = 0; seed < 400; seed++) {
            new ModelTest("spread " + seed, seed, 6, 6, 12).run(500);
            new ModelTest("crowded " + seed, seed, 6, 6, 2).run(500);
        }
        for (int seed = 0; seed < 400; seed++) {
            new ModelTest("full " + seed, seed, 12, 12, 1 + seed % 12).runFull(500);
        }
        for (int seed = 0; seed < 300; seed++) {
            new ModelTest("keeping " + seed, seed, 6, 6, 12).runKeeping(40);
            new ModelTest("crowded keeping " + seed, seed, 7, 6, 1 + seed % 3).runKeeping(40);
        }
        for (int seed = 0; seed < 12; seed++) {
            new ModelTest("much keeping " + seed, seed, 9, 6, 1 + seed % 4).runKeeping(20);
        }
        for (int seed = 0; seed < 3000; seed++) {
            new ModelTest("texts " + seed, seed, 12, 12, 12).runTexts(40);
        }
        Check.end("ModelTest");
    }

    private int below(int bound) {
        return random.nextInt(bound);
    }

    /** Mostly below the bound, at times just outside of it or far away. */
    private int about(int bound) {
        int kind = below(40);
        if (kind == 0) {
            return -1;
        }
        if (kind == 1) {
            return bound;
        }
        if (kind == 2) {
            return random.nextInt();
        }
        return bound > 0 ? below(bound) : 0;
    }

    private void run(int length) {
        tellTown(townText());
        while (calls < length) {
            step(below(24));
        }
    }

    /** Towns as full as can be; keeping is left out, which the model tries row by row. */
    private void runFull(int length) {
        tellTown(townText());
        while (calls < length) {
            int which = below(24);
            if (which < 12 || which > 16) {
                step(which);
            }
        }
    }

    /** Most of the calls ask about keeping a promise that stands. */
    private void runKeeping(int length) {
        for (int tries = 0; tries < 20 && calls < length; tries++) {
            tellTown(townText());
            int sayings = model.count(2) == 0 ? 0 : 2 * model.count(1);
            for (int i = 0; i < sayings; i++) {
                int meeting = below(model.count(1));
                int who = below(2);
                int promise = below(Math.min(2, model.count(2)));
                same("say", () -> town.say(-1, meeting, who, promise), () -> model.say(-1, meeting, who, promise));
            }
            int days = 1 + below(3);
            same("days", () -> town.days(days), () -> model.days(days));
            for (int promise = 0; promise < model.count(2); promise++) {
                if (model.promise(promise, 5) == 1) {
                    askKeeping(promise);
                }
            }
        }
    }

    private void askKeeping(int promise) {
        int silent = below(3) == 0 ? 0 : below(1 << model.count(0)) & below(1 << model.count(0));
        int days = below(3) == 0 ? 1 + below(400) : 1 + below(6);
        int fewer = below(3) == 0 ? 1 + below(60) : 1 + below(6);
        for (int i = 0; i < 2; i++) {
            int what = i;
            same("keep(" + promise + ", " + days + ", " + silent + ", " + what + ")",
                () -> town.keep(promise, days, silent, what), () -> model.keep(promise, days, silent, what));
            for (int j = 0; j < model.count(1); j++) {
                int at = j;
                same("kept(" + at + ")", () -> town.kept(at), () -> model.kept(at));
            }
        }
        same("stands(" + promise + ", " + silent + ")",
            () -> town.stands(promise, silent), () -> model.stands(promise, silent));
        if (below(4) == 0) {
            same("silence(" + promise + ", " + fewer + ")",
                () -> town.silence(promise, fewer), () -> model.silence(promise, fewer));
            same("pairs(" + promise + ", " + fewer + ")",
                () -> town.pairs(promise, fewer), () -> model.pairs(promise, fewer));
        }
    }

    private void runTexts(int length) {
        while (calls < length) {
            tellTown(below(4) == 0 ? townText() : spoiled(townText()));
            for (int what = 0; what < 9; what++) {
                int which = what;
                same("count " + what, () -> town.count(which), () -> model.count(which));
            }
            lookAtAll();
        }
    }

    private void lookAtAll() {
        for (int i = 0; i < model.count(2); i++) {
            for (int what = 0; what < 8; what++) {
                int which = i;
                int asked = what;
                same("promise", () -> town.promise(which, asked), () -> model.promise(which, asked));
            }
        }
        for (int i = 0; i < model.count(1); i++) {
            for (int what = 0; what < 3; what++) {
                int which = i;
                int asked = what;
                same("meeting", () -> town.meeting(which, asked), () -> model.meeting(which, asked));
            }
        }
        for (int i = 0; i < 7; i++) {
            int which = i;
            same("price", () -> town.price(which), () -> model.price(which));
        }
    }

    private void step(int which) {
        int person = about(model.count(0));
        int meeting = about(model.count(1));
        int promise = about(model.count(2));
        int silent = below(20) == 0 ? about(1 << model.count(0)) : below(1 << model.count(0)) & random.nextInt();
        int day = below(4) == 0 ? about(100) : about(8);
        int hour = about(12);
        int what = about(9);
        int bit = about(2);
        int days = below(10) == 0 ? about(101) : below(3);
        int keepDays = below(4) == 0 ? about(401) : 1 + below(5);
        int standDays = below(4) == 0 ? about(61) : 1 + below(4);
        switch (which) {
            case 0 -> same("count(" + what + ")", () -> town.count(what), () -> model.count(what));
            case 1 -> same("price(" + person + ")", () -> town.price(person), () -> model.price(person));
            case 2 -> same("meeting", () -> town.meeting(meeting, bit), () -> model.meeting(meeting, bit));
            case 3, 4 -> same("promise(" + promise + ", " + what + ")",
                () -> town.promise(promise, what), () -> model.promise(promise, what));
            case 5, 6, 7, 8 -> same("say", () -> town.say(below8(day), meeting, bit, promise),
                () -> model.say(below8(day), meeting, bit, promise));
            case 9 -> same("unsay()", town::unsay, model::unsay);
            case 10, 11 -> same("days(" + days + ")", () -> town.days(days), () -> model.days(days));
            case 12, 13 -> {
                same("keep(" + promise + ", " + keepDays + ", " + silent + ", " + bit + ")",
                    () -> town.keep(promise, keepDays, silent, bit), () -> model.keep(promise, keepDays, silent, bit));
                for (int i = -1; i <= model.count(1); i++) {
                    int at = i;
                    same("kept(" + i + ")", () -> town.kept(at), () -> model.kept(at));
                }
            }
            case 14 -> same("silence(" + promise + ", " + standDays + ")",
                () -> town.silence(promise, standDays), () -> model.silence(promise, standDays));
            case 15 -> same("stands(" + promise + ", " + silent + ")",
                () -> town.stands(promise, silent), () -> model.stands(promise, silent));
            case 16 -> same("pairs(" + promise + ", " + standDays + ")",
                () -> town.pairs(promise, standDays), () -> model.pairs(promise, standDays));
            case 17, 18 -> same("tale", () -> town.tale(person, promise, day, hour),
                () -> model.tale(person, promise, day, hour));
            case 19 -> same("lacks", () -> town.lacks(person, promise, day, hour),
                () -> model.lacks(person, promise, day, hour));
            case 20 -> {
                town.image();
                model.image();
            }
            case 21, 22 -> same("restore()", () -> town.restore() ? 1 : 0, () -> model.restore() ? 1 : 0);
            default -> {
                if (below(4) == 0) {
                    tellTown(below(3) == 0 ? spoiled(townText()) : townText());
                }
            }
        }
    }

    private static int below8(int day) {
        return day % 3 == 0 ? -1 : day;
    }

    private void tellTown(String text) {
        for (int at = 0; at < text.length(); at += 20) {
            int[] words = new int[5];
            for (int i = 0; i < 20; i++) {
                int sign = at + i < text.length() ? text.charAt(at + i) : below(256);
                words[i / 4] = words[i / 4] << 8 | sign;
            }
            same("feed", () -> town.feed(words[0], words[1], words[2], words[3], words[4]), () -> model.feed(words));
        }
        int n = below(20) == 0 ? about(text.length() + 20) : text.length();
        same("town(" + n + ") of " + text, () -> town.town(n), () -> model.town(n));
        same("fault()", town::fault, model::fault);
    }

    private String townText() {
        StringBuilder text = new StringBuilder();
        int people = 2;
        if (below(8) != 0) {
            people = 2 + below(5);
            text.append("people ").append(people).append(';');
        }
        for (int i = 0; i < people; i++) {
            if (below(2) == 0) {
                text.append("price ").append(i).append(' ').append(below(3) == 0 ? below(100) : below(4)).append(';');
            }
        }
        int meetings = below(mostMeetings + 1);
        int promises = 1 + below(mostPromises);
        for (int i = 0; i < Math.max(meetings, promises); i++) {
            if (i < meetings) {
                text.append("meet").append(couple(people)).append(" at ").append(below(hours)).append(";");
            }
            if (i < promises) {
                text.append("promise").append(couple(people));
                if (below(3) == 0) {
                    text.append(" day ").append(below(3) == 0 ? below(100) : below(4));
                }
                text.append(" at ").append(below(3) == 0 ? below(12) : 0);
                if (i > 0 && below(3) == 0) {
                    text.append(" on").append(someBelow(i));
                }
                text.append(";");
                if (below(3) == 0) {
                    text.append("\n ");
                }
            }
        }
        return text.length() > 700 ? text.substring(0, 700) : text.toString();
    }

    /** One or more unlike numbers below the end, in any order. */
    private String someBelow(int end) {
        StringBuilder some = new StringBuilder();
        int taken = 0;
        do {
            int one = below(end);
            if ((taken >> one & 1) == 0) {
                some.append(' ').append(one);
                taken |= 1 << one;
            }
        } while (below(3) == 0);
        return some.toString();
    }

    private String couple(int people) {
        int first = below(people);
        int second = (first + 1 + below(people - 1)) % people;
        return " " + first + " " + second;
    }

    /** The text with some piece of it put out, put in or changed. */
    private String spoiled(String text) {
        String[] pieces = {"people", "price", "meet", "promise", "at", "on", "day", ";", "0", "1", "5", "7", "12", "100",
            "0000", "1234", "01", "A", "\t", "\u00e9", "-", " ", "on 0 0", "on 0 1 2", "x", "\0", "meet 0 1 at 3;",
            "promise 1 0 at 2;", "people 3;", "price 0 99;", "price 0 100;"};
        StringBuilder spoiled = new StringBuilder(text);
        int times = 1 + below(2);
        for (int i = 0; i < times; i++) {
            int at = below(spoiled.length() + 1);
            int kind = below(4);
            if (kind == 0) {
                spoiled.setLength(at);
            } else if (kind == 1 && at < spoiled.length()) {
                spoiled.deleteCharAt(at);
            } else if (kind == 2 && at < spoiled.length()) {
                spoiled.setCharAt(at, pieces[below(pieces.length)].charAt(0));
            } else {
                int repeat = below(10) == 0 ? 13 : 1;
                spoiled.insert(at, pieces[below(pieces.length)].repeat(repeat));
            }
        }
        return spoiled.length() > 700 ? spoiled.substring(0, 700) : spoiled.toString();
    }

    private void same(String call, Call got, Call due) {
        calls++;
        Check.same("run " + name + ", call " + calls + ": " + call, answerOf(got), answerOf(due));
    }

    private static int answerOf(Call call) {
        try {
            return call.answer();
        } catch (NoSuchElementException e) {
            return NO_ELEMENT;
        } catch (IllegalArgumentException e) {
            return NOT_LAWFUL;
        }
    }
}
