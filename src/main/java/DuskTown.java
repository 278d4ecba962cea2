import java.util.Arrays;
import java.util.NoSuchElementException;

/** A town in which a promise is undone at dusk unless it was said again that day. */
public final class DuskTown {
    public static final int NONE = -1;

    private static final int TAPE_BYTES = 700;
    private static final int FEED_BYTES = 20;
    private static final int HOURS = 12;
    private static final int TOLD_DAYS = 100;
    private static final int MOST_PEOPLE = 6;
    private static final int MOST_MEETINGS = 12;
    private static final int MOST_PROMISES = 12;
    private static final int MOST_SAYINGS = 60;
    private static final int MOST_DAYS_AT_ONCE = 100;
    private static final int MOST_DAYS_KEPT = 400;
    private static final int MOST_DAYS_STOOD = 60;

    private final byte[] tape = new byte[TAPE_BYTES];
    private int tapeLength;
    private final Reader reader = new Reader(tape);
    private int faultPlace = NONE;
    private final Plan plan = new Plan();
    private final Sayings sayings = new Sayings();
    private final Course course = new Course(plan);
    private int refusedTexts;
    private int refusedSayings;
    private final Image imageKept = new Image(plan);
    private final Tales tales = new Tales(plan);
    private final Keeper keeper = new Keeper(plan);
    private final int[] row = new int[MOST_MEETINGS];
    private boolean rowKept;

    public DuskTown() {
    }

    public int feed(int a, int b, int c, int d, int e) {
        if (tapeLength + FEED_BYTES > TAPE_BYTES) {
            return NONE;
        }
        putOnTape(a);
        putOnTape(b);
        putOnTape(c);
        putOnTape(d);
        putOnTape(e);
        return tapeLength;
    }

    private void putOnTape(int number) {
        for (int shift = 24; shift >= 0; shift -= 8) {
            tape[tapeLength] = (byte) (number >>> shift);
            tapeLength++;
        }
    }

    public int town(int n) throws IllegalArgumentException {
        if (n < 0 || n > tapeLength) {
            throw new IllegalArgumentException("the tape has not so many bytes");
        }
        tapeLength = 0;
        int fault = reader.read(n);
        if (fault != 0) {
            faultPlace = reader.faultPlace;
            refusedTexts++;
            return fault;
        }
        faultPlace = NONE;
        plan.copyFrom(reader.plan);
        plan.arrange();
        sayings.told = 0;
        course.begin();
        rowKept = false;
        imageKept.taken = false;
        tales.mayKnown = false;
        tales.heardKnown = false;
        return 0;
    }

    public int fault() {
        return faultPlace;
    }

    public int count(int what) throws NoSuchElementException {
        switch (what) {
            case 0: return plan.people;
            case 1: return plan.meetings;
            case 2: return plan.promises;
            case 3: return sayings.told;
            case 4: return course.day;
            case 5: return course.paid;
            case 6: return tapeLength;
            case 7: return refusedTexts;
            case 8: return refusedSayings;
            default: throw new NoSuchElementException("no such count");
        }
    }

    public int price(int person) throws NoSuchElementException {
        requirePerson(person);
        return plan.price[person];
    }

    public int meeting(int meeting, int what) throws NoSuchElementException {
        requireMeeting(meeting);
        switch (what) {
            case 0: return plan.first[meeting];
            case 1: return plan.second[meeting];
            case 2: return plan.hour[meeting];
            default: throw new NoSuchElementException("no such thing of a meeting");
        }
    }

    public int promise(int promise, int what) throws NoSuchElementException {
        requirePromise(promise);
        switch (what) {
            case 0: return plan.by[promise];
            case 1: return plan.to[promise];
            case 2: return plan.madeDay[promise];
            case 3: return plan.madeHour[promise];
            case 4: return plan.leans[promise];
            case 5: return course.stateOf(promise);
            case 6: return course.undoneDay[promise];
            case 7: return course.know[promise];
            default: throw new NoSuchElementException("no such thing of a promise");
        }
    }

    public int say(int day, int meeting, int who, int promise) throws NoSuchElementException {
        requireMeeting(meeting);
        requirePromise(promise);
        boolean dayAsTold = day == NONE || (day >= 0 && day < TOLD_DAYS);
        boolean whoAsTold = who == 0 || who == 1;
        if (sayings.told >= MOST_SAYINGS || !dayAsTold || !whoAsTold) {
            refusedSayings++;
            return NONE;
        }
        sayings.add(day, meeting, who, promise);
        tales.heardKnown = false;
        return sayings.told;
    }

    public int unsay() {
        if (sayings.told == 0) {
            return NONE;
        }
        sayings.told--;
        tales.heardKnown = false;
        return sayings.told;
    }

    public int days(int days) throws IllegalArgumentException {
        if (days < 0 || days > MOST_DAYS_AT_ONCE) {
            throw new IllegalArgumentException("not so many days go by at once");
        }
        int before = course.fallen;
        sayings.arrange(plan);
        for (int gone = 0; gone < days; gone++) {
            for (int hour = 0; hour < HOURS; hour++) {
                course.passHour(sayings, hour);
            }
            course.passDusk();
        }
        return course.fallen - before;
    }

    public int keep(int promise, int days, int silent, int what)
            throws NoSuchElementException, IllegalArgumentException {
        requireStanding(promise);
        if (what != 0 && what != 1) {
            throw new NoSuchElementException("no such sum");
        }
        requireDays(days, MOST_DAYS_KEPT);
        requireSilent(silent);
        keeper.prepare(silent, what == 0);
        int least = keeper.leastSum(course.know[promise], days);
        if (least == NONE) {
            return NONE;
        }
        keeper.writeRow(row);
        rowKept = true;
        return least;
    }

    public int kept(int meeting) throws NoSuchElementException {
        requireMeeting(meeting);
        if (!rowKept) {
            throw new NoSuchElementException("no row is kept");
        }
        return row[meeting];
    }

    public int silence(int promise, int days) throws NoSuchElementException, IllegalArgumentException {
        requireStanding(promise);
        requireDays(days, MOST_DAYS_STOOD);
        return keepersOf(promise);
    }

    public int stands(int promise, int silent) throws NoSuchElementException, IllegalArgumentException {
        requireStanding(promise);
        requireSilent(silent);
        return (keepersOf(promise) & ~silent) != 0 ? MOST_DAYS_STOOD : 0;
    }

    public int pairs(int promise, int days) throws NoSuchElementException, IllegalArgumentException {
        requireStanding(promise);
        requireDays(days, MOST_DAYS_STOOD);
        int keepers = keepersOf(promise);
        int found = 0;
        for (int one = 0; one < plan.people; one++) {
            for (int other = 0; other < one; other++) {
                int couple = 1 << one | 1 << other;
                if ((keepers & couple) != 0) {
                    found++;
                }
            }
        }
        return found;
    }

    public int tale(int person, int promise, int day, int hour) throws NoSuchElementException {
        requireTale(person, promise, day, hour);
        tales.refresh(sayings);
        return tales.truthOf(person, promise, day * HOURS + hour);
    }

    public int lacks(int person, int promise, int day, int hour) throws NoSuchElementException {
        requireTale(person, promise, day, hour);
        tales.refresh(sayings);
        int moment = day * HOURS + hour;
        if (tales.truthOf(person, promise, moment) != Tales.FALSE) {
            return NONE;
        }
        return tales.leastWhoMay(promise, moment);
    }

    public void image() {
        imageKept.taken = true;
        imageKept.course.copyFrom(course);
        imageKept.sayings.copyFrom(sayings);
        imageKept.refusedTexts = refusedTexts;
        imageKept.refusedSayings = refusedSayings;
    }

    public boolean restore() {
        if (!imageKept.taken) {
            return false;
        }
        course.copyFrom(imageKept.course);
        sayings.copyFrom(imageKept.sayings);
        refusedTexts = imageKept.refusedTexts;
        refusedSayings = imageKept.refusedSayings;
        tales.heardKnown = false;
        return true;
    }

    /**
     * Those, as bits, each of whom can keep the promise alone. A day's first saying is by one
     * who knows it, to one who had not heard it that day; and he has heard it then himself, so
     * he can do likewise on each day to come. So it can be kept, for however many days, if and
     * only if one who knows it meets somebody and is not silent.
     */
    private int keepersOf(int promise) {
        return course.know[promise] & plan.met;
    }

    private void requirePerson(int person) {
        if (person < 0 || person >= plan.people) {
            throw new NoSuchElementException("no such person");
        }
    }

    private void requireMeeting(int meeting) {
        if (meeting < 0 || meeting >= plan.meetings) {
            throw new NoSuchElementException("no such meeting");
        }
    }

    private void requirePromise(int promise) {
        if (promise < 0 || promise >= plan.promises) {
            throw new NoSuchElementException("no such promise");
        }
    }

    private void requireStanding(int promise) {
        requirePromise(promise);
        if (course.stateOf(promise) != Course.STANDING) {
            throw new NoSuchElementException("the promise does not stand");
        }
    }

    private void requireTale(int person, int promise, int day, int hour) {
        requirePerson(person);
        requirePromise(promise);
        if (day < 0 || day >= TOLD_DAYS) {
            throw new NoSuchElementException("no such day");
        }
        if (hour < 0 || hour >= HOURS) {
            throw new NoSuchElementException("no such hour");
        }
    }

    private void requireDays(int days, int most) {
        if (days < 1 || days > most) {
            throw new IllegalArgumentException("not so many days");
        }
    }

    private void requireSilent(int silent) {
        if ((silent & ~plan.everybody()) != 0) {
            throw new IllegalArgumentException("silent people that there are not");
        }
    }

    /** What a text tells of a town. */
    private static final class Plan {
        int people;
        final int[] price = new int[MOST_PEOPLE];
        int meetings;
        final int[] first = new int[MOST_MEETINGS];
        final int[] second = new int[MOST_MEETINGS];
        final int[] hour = new int[MOST_MEETINGS];
        int promises;
        final int[] by = new int[MOST_PROMISES];
        final int[] to = new int[MOST_PROMISES];
        final int[] madeDay = new int[MOST_PROMISES];
        final int[] madeHour = new int[MOST_PROMISES];
        final int[] leans = new int[MOST_PROMISES];
        /** The meetings as a day goes: by hours, then by numbers. */
        final int[] order = new int[MOST_MEETINGS];
        /** Where each hour's meetings begin in order; one more for the end. */
        final int[] hourStart = new int[HOURS + 1];
        /** People, as bits, who meet somebody. */
        int met;

        Plan() {
            people = 2;
            Arrays.fill(price, 1);
        }

        void clear() {
            people = 2;
            Arrays.fill(price, 1);
            meetings = 0;
            promises = 0;
        }

        void copyFrom(Plan other) {
            people = other.people;
            System.arraycopy(other.price, 0, price, 0, MOST_PEOPLE);
            meetings = other.meetings;
            System.arraycopy(other.first, 0, first, 0, MOST_MEETINGS);
            System.arraycopy(other.second, 0, second, 0, MOST_MEETINGS);
            System.arraycopy(other.hour, 0, hour, 0, MOST_MEETINGS);
            promises = other.promises;
            System.arraycopy(other.by, 0, by, 0, MOST_PROMISES);
            System.arraycopy(other.to, 0, to, 0, MOST_PROMISES);
            System.arraycopy(other.madeDay, 0, madeDay, 0, MOST_PROMISES);
            System.arraycopy(other.madeHour, 0, madeHour, 0, MOST_PROMISES);
            System.arraycopy(other.leans, 0, leans, 0, MOST_PROMISES);
        }

        void addMeeting(int one, int other, int at) {
            first[meetings] = one;
            second[meetings] = other;
            hour[meetings] = at;
            meetings++;
        }

        void addPromise(int who, int whom, int day, int at, int on) {
            by[promises] = who;
            to[promises] = whom;
            madeDay[promises] = day;
            madeHour[promises] = at;
            leans[promises] = on;
            promises++;
        }

        void arrange() {
            int place = 0;
            met = 0;
            for (int at = 0; at < HOURS; at++) {
                hourStart[at] = place;
                for (int meeting = 0; meeting < meetings; meeting++) {
                    if (hour[meeting] == at) {
                        order[place] = meeting;
                        place++;
                        met |= bothOf(meeting);
                    }
                }
            }
            hourStart[HOURS] = place;
        }

        int speakerAt(int meeting, int who) {
            return who == 0 ? first[meeting] : second[meeting];
        }

        int bothOf(int meeting) {
            return 1 << first[meeting] | 1 << second[meeting];
        }

        int everybody() {
            return (1 << people) - 1;
        }
    }

    /** Reads a text token by token into a plan, up to the first fault. */
    private static final class Reader {
        private static final int END = 0;
        private static final int WORD = 1;
        private static final int NUMBER = 2;
        private static final int SEMICOLON = 3;
        private static final int NO_TOKEN = 4;

        private static final int MISPLACED = 1;
        private static final int TOO_MUCH = 2;
        private static final int MISSING = 3;
        private static final int TWICE = 4;
        private static final int PEOPLE_LATE = 5;

        private static final int MOST_DIGITS = 3;
        private static final int TOO_LONG = -1;

        final byte[] text;
        final Plan plan = new Plan();
        int length;
        int kind;
        int start;
        int end;
        int value;
        int taken;
        int fault;
        int faultPlace;

        Reader(byte[] tape) {
            text = tape;
        }

        /** Reads the first bytes of the tape: 0, or the fault. */
        int read(int size) {
            length = size;
            plan.clear();
            fault = 0;
            end = 0;
            advance();
            // Each line takes a token, so there are never more lines than bytes.
            for (int line = 0; line < length && kind != END; line++) {
                if (!readLine(line)) {
                    break;
                }
            }
            return fault;
        }

        boolean readLine(int line) {
            if (isWord("people")) {
                return line == 0 ? readPeople() : refuse(PEOPLE_LATE);
            }
            if (isWord("price")) {
                return readPrice();
            }
            if (isWord("meet")) {
                return plan.meetings < MOST_MEETINGS ? readMeeting() : refuse(TOO_MUCH);
            }
            if (isWord("promise")) {
                return plan.promises < MOST_PROMISES ? readPromise() : refuse(TOO_MUCH);
            }
            return refuse(MISPLACED);
        }

        boolean readPeople() {
            advance();
            if (!takeNumber(2, MOST_PEOPLE, TOO_MUCH)) {
                return false;
            }
            plan.people = taken;
            return takeSemicolon();
        }

        boolean readPrice() {
            advance();
            if (!takePerson()) {
                return false;
            }
            int person = taken;
            if (!takeNumber(0, 99, TOO_MUCH)) {
                return false;
            }
            plan.price[person] = taken;
            return takeSemicolon();
        }

        boolean readMeeting() {
            advance();
            if (!takePerson()) {
                return false;
            }
            int one = taken;
            if (!takeOther(one)) {
                return false;
            }
            int other = taken;
            if (!takeHour()) {
                return false;
            }
            plan.addMeeting(one, other, taken);
            return takeSemicolon();
        }

        boolean readPromise() {
            advance();
            if (!takePerson()) {
                return false;
            }
            int by = taken;
            if (!takeOther(by)) {
                return false;
            }
            int to = taken;
            if (!takeDay()) {
                return false;
            }
            int day = taken;
            if (!takeHour()) {
                return false;
            }
            int hour = taken;
            if (!takeLeans()) {
                return false;
            }
            plan.addPromise(by, to, day, hour, taken);
            return takeSemicolon();
        }

        boolean takePerson() {
            return takeNumber(0, plan.people - 1, MISSING);
        }

        boolean takeOther(int first) {
            if (kind == NUMBER && value == first) {
                return refuse(TWICE);
            }
            return takeNumber(0, plan.people - 1, MISSING);
        }

        boolean takeDay() {
            taken = 0;
            if (!isWord("day")) {
                return true;
            }
            advance();
            return takeNumber(0, TOLD_DAYS - 1, TOO_MUCH);
        }

        boolean takeHour() {
            if (!isWord("at")) {
                return refuse(MISPLACED);
            }
            advance();
            return takeNumber(0, HOURS - 1, TOO_MUCH);
        }

        /** Leaves as bits what the promise leans on. */
        boolean takeLeans() {
            taken = 0;
            if (!isWord("on")) {
                return true;
            }
            advance();
            int bits = 0;
            // One round more than there can be promises: the last one can only be refused.
            for (int round = 0; round <= MOST_PROMISES; round++) {
                if (round > 0 && kind != NUMBER) {
                    break;
                }
                boolean told = kind == NUMBER && value >= 0 && value < plan.promises;
                if (told && (bits >> value & 1) != 0) {
                    return refuse(TWICE);
                }
                if (!takeNumber(0, plan.promises - 1, MISSING)) {
                    return false;
                }
                bits |= 1 << taken;
            }
            taken = bits;
            return true;
        }

        boolean takeNumber(int least, int most, int faultBeyond) {
            if (kind != NUMBER) {
                return refuse(MISPLACED);
            }
            if (value == TOO_LONG) {
                return refuse(TOO_MUCH);
            }
            if (value < least || value > most) {
                return refuse(faultBeyond);
            }
            taken = value;
            advance();
            return true;
        }

        boolean takeSemicolon() {
            if (kind != SEMICOLON) {
                return refuse(MISPLACED);
            }
            advance();
            return true;
        }

        boolean refuse(int which) {
            fault = which;
            faultPlace = start;
            return false;
        }

        boolean isWord(String word) {
            if (kind != WORD || end - start != word.length()) {
                return false;
            }
            for (int i = 0; i < word.length(); i++) {
                if (text[start + i] != word.charAt(i)) {
                    return false;
                }
            }
            return true;
        }

        /** Goes on to the next token: its kind, start, end and value. */
        void advance() {
            start = end;
            while (start < length && (text[start] == 32 || text[start] == 10)) {
                start++;
            }
            end = start;
            value = 0;
            while (end < length && text[end] >= 'a' && text[end] <= 'z') {
                end++;
            }
            if (end > start) {
                kind = WORD;
                return;
            }
            while (end < length && text[end] >= '0' && text[end] <= '9') {
                boolean fits = end - start < MOST_DIGITS;
                value = fits ? value * 10 + text[end] - '0' : TOO_LONG;
                end++;
            }
            if (end > start) {
                kind = NUMBER;
            } else if (end < length) {
                kind = text[end] == ';' ? SEMICOLON : NO_TOKEN;
                end++;
            } else {
                kind = END;
            }
        }
    }

    /** The sayings, as they were told and as a day goes through them. */
    private static final class Sayings {
        int told;
        final int[] day = new int[MOST_SAYINGS];
        final int[] meeting = new int[MOST_SAYINGS];
        final int[] who = new int[MOST_SAYINGS];
        final int[] promise = new int[MOST_SAYINGS];
        /** The sayings by the place of their meeting in a day, then as told. */
        final int[] line = new int[MOST_SAYINGS];
        /** Where the sayings of each place begin in line; one more for the end. */
        final int[] lineStart = new int[MOST_MEETINGS + 1];

        void add(int onDay, int at, int sayer, int what) {
            day[told] = onDay;
            meeting[told] = at;
            who[told] = sayer;
            promise[told] = what;
            told++;
        }

        void arrange(Plan plan) {
            int filled = 0;
            for (int place = 0; place < plan.meetings; place++) {
                lineStart[place] = filled;
                for (int saying = 0; saying < told; saying++) {
                    if (meeting[saying] == plan.order[place]) {
                        line[filled] = saying;
                        filled++;
                    }
                }
            }
            lineStart[plan.meetings] = filled;
        }

        void copyFrom(Sayings other) {
            told = other.told;
            System.arraycopy(other.day, 0, day, 0, MOST_SAYINGS);
            System.arraycopy(other.meeting, 0, meeting, 0, MOST_SAYINGS);
            System.arraycopy(other.who, 0, who, 0, MOST_SAYINGS);
            System.arraycopy(other.promise, 0, promise, 0, MOST_SAYINGS);
        }
    }

    /** How days go by: what stands, who knows it, what was paid. */
    private static final class Course {
        static final int STANDING = 1;

        final Plan plan;
        int day;
        int paid;
        /** How many promises were undone so far. */
        int fallen;
        /** Promises, as bits. */
        int standing;
        int undone;
        int saidAgain;
        /** People, as bits, who have said something in this hour. */
        int spoke;
        final int[] undoneDay = new int[MOST_PROMISES];
        final int[] know = new int[MOST_PROMISES];
        final int[] heard = new int[MOST_PROMISES];

        Course(Plan town) {
            plan = town;
            Arrays.fill(undoneDay, NONE);
        }

        void begin() {
            day = 0;
            paid = 0;
            fallen = 0;
            standing = 0;
            undone = 0;
            saidAgain = 0;
            Arrays.fill(undoneDay, NONE);
            Arrays.fill(know, 0);
            Arrays.fill(heard, 0);
        }

        /** Copies what there is at the beginning of a day. */
        void copyFrom(Course other) {
            day = other.day;
            paid = other.paid;
            fallen = other.fallen;
            standing = other.standing;
            undone = other.undone;
            System.arraycopy(other.undoneDay, 0, undoneDay, 0, MOST_PROMISES);
            System.arraycopy(other.know, 0, know, 0, MOST_PROMISES);
        }

        int stateOf(int promise) {
            int bit = 1 << promise;
            if ((undone & bit) != 0) {
                return 2;
            }
            return (standing & bit) != 0 ? STANDING : 0;
        }

        void passHour(Sayings sayings, int hour) {
            makePromises(hour);
            spoke = 0;
            for (int place = plan.hourStart[hour]; place < plan.hourStart[hour + 1]; place++) {
                for (int i = sayings.lineStart[place]; i < sayings.lineStart[place + 1]; i++) {
                    trySaying(sayings, sayings.line[i]);
                }
            }
        }

        void makePromises(int hour) {
            for (int promise = 0; promise < plan.promises; promise++) {
                if (plan.madeDay[promise] == day && plan.madeHour[promise] == hour) {
                    if ((plan.leans[promise] & ~standing) != 0) {
                        undo(promise);
                    } else {
                        standing |= 1 << promise;
                        heard[promise] = 1 << plan.by[promise] | 1 << plan.to[promise];
                    }
                }
            }
        }

        void trySaying(Sayings sayings, int saying) {
            if (sayings.day[saying] != NONE && sayings.day[saying] != day) {
                return;
            }
            int meeting = sayings.meeting[saying];
            int promise = sayings.promise[saying];
            int both = plan.bothOf(meeting);
            int speaker = plan.speakerAt(meeting, sayings.who[saying]);
            int has = (know[promise] | heard[promise]) & ~spoke;
            if ((standing >> promise & 1) == 0 || (has >> speaker & 1) == 0) {
                return;
            }
            spoke |= 1 << speaker;
            paid += plan.price[speaker];
            int other = both & ~(1 << speaker);
            if ((heard[promise] & other) == 0) {
                saidAgain |= 1 << promise;
            }
            heard[promise] |= both;
        }

        void passDusk() {
            for (int promise = 0; promise < plan.promises; promise++) {
                // What it leans on was told ahead of it, so it has fallen already if it falls.
                boolean holds = (saidAgain >> promise & 1) != 0 && (plan.leans[promise] & undone) == 0;
                if ((standing >> promise & 1) != 0 && !holds) {
                    undo(promise);
                }
                know[promise] = heard[promise];
                heard[promise] = 0;
            }
            saidAgain = 0;
            day++;
        }

        void undo(int promise) {
            standing &= ~(1 << promise);
            undone |= 1 << promise;
            undoneDay[promise] = day;
            fallen++;
        }
    }

    /** What restore() goes back to. */
    private static final class Image {
        boolean taken;
        final Course course;
        final Sayings sayings = new Sayings();
        int refusedTexts;
        int refusedSayings;

        Image(Plan town) {
            course = new Course(town);
        }
    }

    /**
     * When each one first had heard each promise, and when he first may have; found once and
     * asked often. A moment is a day's number times HOURS, and the hour.
     */
    private static final class Tales {
        static final int FALSE = 0;
        static final int OPEN = 1;
        static final int TRUE = 2;
        private static final int NEVER = TOLD_DAYS * HOURS;

        final Plan plan;
        boolean heardKnown;
        boolean mayKnown;
        final int[] heardSince = new int[MOST_PROMISES * MOST_PEOPLE];
        final int[] maySince = new int[MOST_PROMISES * MOST_PEOPLE];
        final int[] everHeard = new int[MOST_PROMISES];
        final Course course;

        Tales(Plan town) {
            plan = town;
            course = new Course(town);
        }

        void refresh(Sayings sayings) {
            if (!mayKnown) {
                Arrays.fill(maySince, NEVER);
                for (int promise = 0; promise < plan.promises; promise++) {
                    findWhoMay(promise);
                }
                mayKnown = true;
            }
            if (!heardKnown) {
                Arrays.fill(heardSince, NEVER);
                findWhoHeard(sayings);
                heardKnown = true;
            }
        }

        int truthOf(int person, int promise, int moment) {
            int at = promise * MOST_PEOPLE + person;
            if (heardSince[at] <= moment) {
                return TRUE;
            }
            return maySince[at] <= moment ? OPEN : FALSE;
        }

        int leastWhoMay(int promise, int moment) {
            for (int person = 0; person < plan.people; person++) {
                if (maySince[promise * MOST_PEOPLE + person] <= moment) {
                    return person;
                }
            }
            return NONE;
        }

        void findWhoMay(int promise) {
            int may = 1 << plan.by[promise] | 1 << plan.to[promise];
            int from = plan.madeDay[promise] * HOURS + plan.madeHour[promise];
            mark(maySince, promise, may, from);
            // Each day brings somebody or will never do, so a day for each one is enough.
            int until = Math.min(NEVER, from + MOST_PEOPLE * HOURS);
            for (int moment = from; moment < until; moment++) {
                int hour = moment % HOURS;
                for (int place = plan.hourStart[hour]; place < plan.hourStart[hour + 1]; place++) {
                    int both = plan.bothOf(plan.order[place]);
                    if ((may & both) != 0) {
                        mark(maySince, promise, both & ~may, moment);
                        may |= both;
                    }
                }
            }
        }

        void findWhoHeard(Sayings sayings) {
            course.begin();
            sayings.arrange(plan);
            Arrays.fill(everHeard, 0);
            int all = (1 << plan.promises) - 1;
            for (int day = 0; day < TOLD_DAYS && course.undone != all; day++) {
                for (int hour = 0; hour < HOURS; hour++) {
                    course.passHour(sayings, hour);
                    markNewlyHeard(day * HOURS + hour);
                }
                course.passDusk();
            }
        }

        void markNewlyHeard(int moment) {
            for (int promise = 0; promise < plan.promises; promise++) {
                int newly = course.heard[promise] & ~everHeard[promise];
                if (newly != 0) {
                    mark(heardSince, promise, newly, moment);
                    everHeard[promise] |= newly;
                }
            }
        }

        static void mark(int[] since, int promise, int people, int moment) {
            for (int person = 0; person < MOST_PEOPLE; person++) {
                if ((people >> person & 1) != 0) {
                    since[promise * MOST_PEOPLE + person] = moment;
                }
            }
        }
    }

    /**
     * The least sum by which a promise is kept, and the first day's row of it.
     *
     * One saying a day is enough. Who says it first on the last day had heard it on the day
     * before, from one who had it then, and so on back to one who knows it now: a chain of
     * sayings, one or more a day. The chain's first sayings, as many as there are days, each
     * put off to a day of its own, keep it as well; they cost no more, and the first day's row,
     * with one saying instead of more, comes no later.
     */
    private static final class Keeper {
        /** Above all sums, and far from an overflow. */
        private static final int FAR = 1 << 28;

        final Plan plan;
        /** What a saying adds, by who says it; FAR if he is silent. */
        final int[] weight = new int[MOST_PEOPLE];
        /** The least sum of some days, by who says it on their first; FAR if it can't be. */
        final int[] some = new int[MOST_PEOPLE];
        final int[] oneMore = new int[MOST_PEOPLE];
        /** The first day's saying: at which place of the day, and its digit in the row. */
        int bestPlace;
        int bestDigit;

        Keeper(Plan town) {
            plan = town;
        }

        void prepare(int silent, boolean byPrice) {
            for (int person = 0; person < plan.people; person++) {
                int each = byPrice ? plan.price[person] : 1;
                weight[person] = (silent >> person & 1) != 0 ? FAR : each;
            }
        }

        int leastSum(int knowers, int days) {
            sumDays(days - 1);
            int least = FAR;
            // A row is the earlier, the later its place and the less its digit is: so of like
            // sums the one that is found first stays.
            for (int place = plan.meetings - 1; place >= 0; place--) {
                int behind = sumBehind(plan.order[place]);
                for (int who = 0; who <= 1; who++) {
                    int speaker = plan.speakerAt(plan.order[place], who);
                    int sum = weight[speaker] + behind;
                    if ((knowers >> speaker & 1) != 0 && sum < least) {
                        least = sum;
                        bestPlace = place;
                        bestDigit = who + 1;
                    }
                }
            }
            return least < FAR ? least : NONE;
        }

        /** Writes the row of the least sum, by the meetings' numbers. */
        void writeRow(int[] row) {
            for (int place = 0; place < plan.meetings; place++) {
                row[plan.order[place]] = place == bestPlace ? bestDigit : 0;
            }
        }

        void sumDays(int days) {
            Arrays.fill(some, 0);
            for (int day = 0; day < days; day++) {
                addDay();
            }
        }

        void addDay() {
            Arrays.fill(oneMore, FAR);
            for (int meeting = 0; meeting < plan.meetings; meeting++) {
                int behind = sumBehind(meeting);
                for (int who = 0; who <= 1; who++) {
                    int speaker = plan.speakerAt(meeting, who);
                    oneMore[speaker] = Math.min(oneMore[speaker], weight[speaker] + behind);
                }
            }
            System.arraycopy(oneMore, 0, some, 0, MOST_PEOPLE);
        }

        /** The least sum of the days behind one on which it was said at this meeting. */
        int sumBehind(int meeting) {
            return Math.min(some[plan.first[meeting]], some[plan.second[meeting]]);
        }
    }
}
