import java.util.ArrayList;
import java.util.Arrays;
import java.util.HashMap;
import java.util.List;
import java.util.Map;
import java.util.NoSuchElementException;
import java.util.TreeMap;
import java.util.regex.Matcher;
import java.util.regex.Pattern;

/** The document said again as literally and slowly as it can be, to compare DuskTown with. */
final class Model {
    private static final int FAR = 1 << 29;

    record Meet(int first, int second, int hour) { }
    record Vow(int by, int to, int day, int hour, List<Integer> on) { }
    record Saying(int day, int meeting, int who, int promise) { }

    static final class World {
        int day;
        int paid;
        int fallen;
        int[] state = new int[12];
        int[] undoneOn = new int[12];
        boolean[][] know = new boolean[12][6];
        boolean[][] heard = new boolean[12][6];
        boolean[] again = new boolean[12];

        World() {
            Arrays.fill(undoneOn, -1);
        }

        World copy() {
            World w = new World();
            w.day = day;
            w.paid = paid;
            w.fallen = fallen;
            w.state = state.clone();
            w.undoneOn = undoneOn.clone();
            for (int i = 0; i < 12; i++) {
                w.know[i] = know[i].clone();
            }
            return w;
        }
    }

    StringBuilder tape = new StringBuilder();
    int faultAt = -1;
    int people = 2;
    int[] prices = {1, 1, 1, 1, 1, 1};
    List<Meet> meets = new ArrayList<>();
    List<Vow> vows = new ArrayList<>();
    List<Saying> sayings = new ArrayList<>();
    World world = new World();
    int texts;
    int refused;
    int[] row;
    World imageWorld;
    List<Saying> imageSayings;
    int imageTexts;
    int imageRefused;

    int feed(int... numbers) {
        if (tape.length() + 20 > 700) {
            return -1;
        }
        for (int number : numbers) {
            for (int shift = 24; shift >= 0; shift -= 8) {
                tape.append((char) (number >>> shift & 255));
            }
        }
        return tape.length();
    }

    // ---- the text

    private static final Pattern TOKEN = Pattern.compile("[a-z]+|[0-9]+|[^a-z0-9 \\n]", Pattern.DOTALL);
    private final List<String> tokens = new ArrayList<>();
    private final List<Integer> places = new ArrayList<>();
    private int at;

    static final class Fault extends RuntimeException {
        final int kind;
        final int place;

        Fault(int kind, int place) {
            this.kind = kind;
            this.place = place;
        }
    }

    int town(int n) {
        if (n < 0 || n > tape.length()) {
            throw new IllegalArgumentException();
        }
        String text = tape.substring(0, n);
        tape.setLength(0);
        tokens.clear();
        places.clear();
        Matcher m = TOKEN.matcher(text);
        while (m.find()) {
            tokens.add(m.group());
            places.add(m.start());
        }
        tokens.add("");
        places.add(n);
        at = 0;
        Model draft = new Model();
        try {
            while (at < tokens.size() - 1) {
                line(draft);
            }
        } catch (Fault f) {
            texts++;
            faultAt = f.place;
            return f.kind;
        }
        faultAt = -1;
        people = draft.people;
        prices = draft.prices;
        meets = draft.meets;
        vows = draft.vows;
        sayings = new ArrayList<>();
        world = new World();
        row = null;
        imageWorld = null;
        return 0;
    }

    private Fault fault(int kind) {
        return new Fault(kind, places.get(at));
    }

    private void line(Model d) {
        String word = tokens.get(at);
        if (!List.of("people", "price", "meet", "promise").contains(word)) {
            throw fault(1);
        }
        if (word.equals("meet") && d.meets.size() == 12 || word.equals("promise") && d.vows.size() == 12) {
            throw fault(2);
        }
        if (word.equals("people") && at > 0) {
            throw fault(5);
        }
        at++;
        if (word.equals("people")) {
            d.people = number(2, 6, 2, -1);
        } else if (word.equals("price")) {
            int person = number(0, d.people - 1, 3, -1);
            d.prices[person] = number(0, 99, 2, -1);
        } else if (word.equals("meet")) {
            int first = number(0, d.people - 1, 3, -1);
            int second = number(0, d.people - 1, 3, first);
            sign("at");
            d.meets.add(new Meet(first, second, number(0, 11, 2, -1)));
        } else {
            int by = number(0, d.people - 1, 3, -1);
            int to = number(0, d.people - 1, 3, by);
            int day = 0;
            if (tokens.get(at).equals("day")) {
                at++;
                day = number(0, 99, 2, -1);
            }
            sign("at");
            int hour = number(0, 11, 2, -1);
            List<Integer> on = new ArrayList<>();
            if (tokens.get(at).equals("on")) {
                at++;
                do {
                    int which = number(0, d.vows.size() - 1, 3, -1);
                    if (on.contains(which)) {
                        at--;
                        throw fault(4);
                    }
                    on.add(which);
                } while (tokens.get(at).matches("[0-9]+"));
            }
            d.vows.add(new Vow(by, to, day, hour, on));
        }
        sign(";");
    }

    private void sign(String due) {
        if (!tokens.get(at).equals(due)) {
            throw fault(1);
        }
        at++;
    }

    private int number(int least, int most, int beyond, int unlike) {
        String token = tokens.get(at);
        if (!token.matches("[0-9]+")) {
            throw fault(1);
        }
        if (token.length() > 3) {
            throw fault(2);
        }
        int value = Integer.parseInt(token);
        if (value < least || value > most) {
            throw fault(beyond);
        }
        if (value == unlike) {
            throw fault(4);
        }
        at++;
        return value;
    }

    int fault() {
        return faultAt;
    }

    // ---- what there is

    int count(int what) {
        int[] all = {people, meets.size(), vows.size(), sayings.size(), world.day, world.paid, tape.length(), texts,
            refused};
        if (what < 0 || what >= all.length) {
            throw new NoSuchElementException();
        }
        return all[what];
    }

    private static void need(boolean there) {
        if (!there) {
            throw new NoSuchElementException();
        }
    }

    private static void lawful(boolean so) {
        if (!so) {
            throw new IllegalArgumentException();
        }
    }

    int price(int person) {
        need(person >= 0 && person < people);
        return prices[person];
    }

    int meeting(int meeting, int what) {
        need(meeting >= 0 && meeting < meets.size() && what >= 0 && what <= 2);
        Meet m = meets.get(meeting);
        return new int[] {m.first, m.second, m.hour}[what];
    }

    int promise(int promise, int what) {
        need(promise >= 0 && promise < vows.size() && what >= 0 && what <= 7);
        Vow v = vows.get(promise);
        int on = 0;
        for (int p : v.on) {
            on |= 1 << p;
        }
        return new int[] {v.by, v.to, v.day, v.hour, on, world.state[promise], world.undoneOn[promise],
            bits(world.know[promise])}[what];
    }

    private static int bits(boolean[] who) {
        int bits = 0;
        for (int i = 0; i < who.length; i++) {
            if (who[i]) {
                bits |= 1 << i;
            }
        }
        return bits;
    }

    int say(int day, int meeting, int who, int promise) {
        need(meeting >= 0 && meeting < meets.size() && promise >= 0 && promise < vows.size());
        if (sayings.size() == 60 || day < -1 || day > 99 || who < 0 || who > 1) {
            refused++;
            return -1;
        }
        sayings.add(new Saying(day, meeting, who, promise));
        return sayings.size();
    }

    int unsay() {
        if (sayings.isEmpty()) {
            return -1;
        }
        sayings.remove(sayings.size() - 1);
        return sayings.size();
    }

    // ---- days

    private void hour(World w, int hour) {
        for (int p = 0; p < vows.size(); p++) {
            Vow v = vows.get(p);
            if (v.day == w.day && v.hour == hour) {
                boolean all = true;
                for (int on : v.on) {
                    all &= w.state[on] == 1;
                }
                if (all) {
                    w.state[p] = 1;
                    w.heard[p][v.by] = true;
                    w.heard[p][v.to] = true;
                } else {
                    undo(w, p);
                }
            }
        }
        boolean[] spoke = new boolean[6];
        for (int m = 0; m < meets.size(); m++) {
            Meet meet = meets.get(m);
            if (meet.hour != hour) {
                continue;
            }
            for (Saying s : sayings) {
                if (s.meeting != m || s.day != -1 && s.day != w.day) {
                    continue;
                }
                int speaker = s.who == 0 ? meet.first : meet.second;
                int other = s.who == 0 ? meet.second : meet.first;
                boolean has = w.know[s.promise][speaker] || w.heard[s.promise][speaker];
                if (!spoke[speaker] && w.state[s.promise] == 1 && has) {
                    spoke[speaker] = true;
                    w.paid += prices[speaker];
                    if (!w.heard[s.promise][other]) {
                        w.again[s.promise] = true;
                    }
                    w.heard[s.promise][speaker] = true;
                    w.heard[s.promise][other] = true;
                }
            }
        }
    }

    private static void undo(World w, int p) {
        w.state[p] = 2;
        w.undoneOn[p] = w.day;
        w.fallen++;
    }

    private void dusk(World w) {
        for (int p = 0; p < vows.size(); p++) {
            if (w.state[p] == 1 && !w.again[p]) {
                undo(w, p);
            }
        }
        boolean more = true;
        while (more) {
            more = false;
            for (int p = 0; p < vows.size(); p++) {
                for (int on : vows.get(p).on) {
                    if (w.state[p] == 1 && w.state[on] == 2) {
                        undo(w, p);
                        more = true;
                    }
                }
            }
        }
        w.know = w.heard;
        w.heard = new boolean[12][6];
        w.again = new boolean[12];
        w.day++;
    }

    int days(int days) {
        lawful(days >= 0 && days <= 100);
        int before = world.fallen;
        for (int d = 0; d < days; d++) {
            for (int h = 0; h < 12; h++) {
                hour(world, h);
            }
            dusk(world);
        }
        return world.fallen - before;
    }

    // ---- keeping

    private void standing(int promise) {
        need(promise >= 0 && promise < vows.size() && world.state[promise] == 1);
    }

    /** The meetings in the order of a day. */
    private List<Integer> order() {
        List<Integer> order = new ArrayList<>();
        for (int i = 0; i < meets.size(); i++) {
            order.add(i);
        }
        order.sort((a, b) -> meets.get(a).hour - meets.get(b).hour);
        return order;
    }

    /** What a row of a day costs and leaves, {sum, who has heard}; null if it can't be. */
    private int[] tryRow(int[] digits, List<Integer> order, int know, int silent, boolean byPrice) {
        int sum = 0;
        int heard = 0;
        boolean again = false;
        boolean[][] spoke = new boolean[12][6];
        for (int i = 0; i < digits.length; i++) {
            if (digits[i] == 0) {
                continue;
            }
            Meet m = meets.get(order.get(i));
            int speaker = digits[i] == 1 ? m.first : m.second;
            int other = digits[i] == 1 ? m.second : m.first;
            if ((silent >> speaker & 1) != 0 || spoke[m.hour][speaker] || ((know | heard) >> speaker & 1) == 0) {
                return null;
            }
            spoke[m.hour][speaker] = true;
            sum += byPrice ? prices[speaker] : 1;
            again |= (heard >> other & 1) == 0;
            heard |= 1 << speaker | 1 << other;
        }
        return again ? new int[] {sum, heard} : null;
    }

    private static boolean nextRow(int[] digits) {
        for (int i = digits.length - 1; i >= 0; i--) {
            if (digits[i] < 2) {
                digits[i]++;
                return true;
            }
            digits[i] = 0;
        }
        return false;
    }

    private final Map<Long, Map<Integer, Integer>> dayTables = new HashMap<>();

    /** By who has heard at dusk, the least sum of a day. */
    private Map<Integer, Integer> dayTable(int know, int silent, boolean byPrice) {
        long key = know | silent << 6 | (byPrice ? 1 << 12 : 0);
        Map<Integer, Integer> table = dayTables.get(key);
        if (table == null) {
            table = new TreeMap<>();
            List<Integer> order = order();
            int[] digits = new int[meets.size()];
            do {
                int[] did = tryRow(digits, order, know, silent, byPrice);
                if (did != null) {
                    table.merge(did[1], did[0], Math::min);
                }
            } while (nextRow(digits));
            dayTables.put(key, table);
        }
        return table;
    }

    /** The least sums of 0, 1 .. days, by who knows. */
    private int[][] sums(int days, int silent, boolean byPrice, int know) {
        boolean[] reached = new boolean[64];
        mark(reached, know, silent, byPrice);
        int[][] sums = new int[days + 1][64];
        for (int d = 1; d <= days; d++) {
            for (int k = 0; k < 64; k++) {
                sums[d][k] = FAR;
                if (reached[k]) {
                    for (Map.Entry<Integer, Integer> e : dayTable(k, silent, byPrice).entrySet()) {
                        int sum = Math.min(FAR, e.getValue() + sums[d - 1][e.getKey()]);
                        sums[d][k] = Math.min(sums[d][k], sum);
                    }
                }
            }
        }
        return sums;
    }

    private void mark(boolean[] reached, int know, int silent, boolean byPrice) {
        if (!reached[know]) {
            reached[know] = true;
            for (int then : dayTable(know, silent, byPrice).keySet()) {
                mark(reached, then, silent, byPrice);
            }
        }
    }

    int keep(int promise, int days, int silent, int what) {
        standing(promise);
        need(what == 0 || what == 1);
        lawful(days >= 1 && days <= 400 && silent >= 0 && silent < 1 << people);
        dayTables.clear();
        boolean byPrice = what == 0;
        int know = bits(world.know[promise]);
        int[][] sums = sums(days, silent, byPrice, know);
        int least = sums[days][know];
        if (least >= FAR) {
            return -1;
        }
        List<Integer> order = order();
        int[] digits = new int[meets.size()];
        do {
            int[] did = tryRow(digits, order, know, silent, byPrice);
            if (did != null && did[0] + sums[days - 1][did[1]] == least) {
                row = new int[meets.size()];
                for (int i = 0; i < digits.length; i++) {
                    row[order.get(i)] = digits[i];
                }
                return least;
            }
        } while (nextRow(digits));
        throw new IllegalStateException("no row");
    }

    int kept(int meeting) {
        need(meeting >= 0 && meeting < meets.size() && row != null);
        return row[meeting];
    }

    private boolean canKeep(int promise, int days, int silent) {
        int know = bits(world.know[promise]);
        return sums(days, silent, false, know)[days][know] < FAR;
    }

    int silence(int promise, int days) {
        standing(promise);
        lawful(days >= 1 && days <= 60);
        dayTables.clear();
        int best = -1;
        for (int silent = 0; silent < 1 << people; silent++) {
            if (!canKeep(promise, days, silent)
                    && (best < 0 || Integer.bitCount(silent) < Integer.bitCount(best))) {
                best = silent;
            }
        }
        return best;
    }

    int stands(int promise, int silent) {
        standing(promise);
        lawful(silent >= 0 && silent < 1 << people);
        dayTables.clear();
        int know = bits(world.know[promise]);
        int[][] sums = sums(60, silent, false, know);
        int days = 60;
        while (sums[days][know] >= FAR) {
            days--;
        }
        return days;
    }

    int pairs(int promise, int days) {
        standing(promise);
        lawful(days >= 1 && days <= 60);
        dayTables.clear();
        int found = 0;
        for (int a = 0; a < people; a++) {
            for (int b = a + 1; b < people; b++) {
                if (canKeep(promise, days, (1 << people) - 1 & ~(1 << a | 1 << b))) {
                    found++;
                }
            }
        }
        return found;
    }

    // ---- tales

    private boolean[] mayBy(int promise, int day, int hour) {
        boolean[] may = new boolean[6];
        Vow v = vows.get(promise);
        for (int t = v.day * 12 + v.hour; t <= day * 12 + hour; t++) {
            may[v.by] = true;
            may[v.to] = true;
            for (Meet m : meets) {
                if (m.hour == t % 12 && (may[m.first] || may[m.second])) {
                    may[m.first] = true;
                    may[m.second] = true;
                }
            }
        }
        return may;
    }

    int tale(int person, int promise, int day, int hour) {
        need(person >= 0 && person < people && promise >= 0 && promise < vows.size());
        need(day >= 0 && day <= 99 && hour >= 0 && hour <= 11);
        World w = new World();
        for (int t = 0; t <= day * 12 + hour; t++) {
            hour(w, t % 12);
            if (w.heard[promise][person]) {
                return 2;
            }
            if (t % 12 == 11) {
                dusk(w);
            }
        }
        return mayBy(promise, day, hour)[person] ? 1 : 0;
    }

    int lacks(int person, int promise, int day, int hour) {
        if (tale(person, promise, day, hour) != 0) {
            return -1;
        }
        boolean[] may = mayBy(promise, day, hour);
        for (int i = 0; i < people; i++) {
            if (may[i]) {
                return i;
            }
        }
        return -1;
    }

    // ---- images

    void image() {
        imageWorld = world.copy();
        imageSayings = new ArrayList<>(sayings);
        imageTexts = texts;
        imageRefused = refused;
    }

    boolean restore() {
        if (imageWorld == null) {
            return false;
        }
        world = imageWorld.copy();
        sayings = new ArrayList<>(imageSayings);
        texts = imageTexts;
        refused = imageRefused;
        return true;
    }
}
