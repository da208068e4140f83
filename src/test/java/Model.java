import java.util.ArrayList;
import java.util.Arrays;
import java.util.HashMap;
import java.util.HashSet;
import java.util.List;
import java.util.Map;
import java.util.Set;
import java.util.regex.Matcher;
import java.util.regex.Pattern;

/**
 * A second reading of the document, slow and plain: it keeps all that ever was and asks it anew
 * each time. It shares no way of working with the class, so that a slip in one shows.
 */
final class Model {
    private static final int NONE = -1;
    private static final Pattern TOKEN = Pattern.compile("[ \n]*(?:([a-z]+)|([0-9]+)|(.)|$)", Pattern.DOTALL);
    private static final Set<String> KEYWORDS =
        new HashSet<>(Arrays.asList("watch", "rest", "bill", "dull", "learn", "least"));

    /** A fault of the text on its way out of the grammar. */
    private static final class Fault extends Exception {
        private static final long serialVersionUID = 1L;
        final int number;
        final int place;

        Fault(int number, int place) {
            this.number = number;
            this.place = place;
        }
    }

    private static final class Token {
        String word = "";
        int place;

        boolean isNumber() {
            return word.matches("[0-9]+");
        }

        boolean isName() {
            return word.matches("[a-z]{1,8}") && !KEYWORDS.contains(word);
        }
    }

    private static final class Bill {
        int bells;
        final List<Integer> skills = new ArrayList<>();
    }

    private static final class Order {
        int bill;
        int firstBell;
        int bells;
        int called;
        int[] hands;
        int[] learners;
    }

    private static final class Text {
        final List<Integer> round = new ArrayList<>();
        int[] rest = {48, 0, 0};
        final List<Bill> bills = new ArrayList<>();
        final Map<String, Integer> settings = new HashMap<>(Map.of("dull", 0, "learn", 0, "least", 0));
    }

    private static final class Hand {
        int watch;
        int skills;
        int sickUntil;
        int turns;
        int fills;
        int breaches;
        final List<Integer> places = new ArrayList<>();
        final List<Integer> stationOrders = new ArrayList<>();
        final int[] learned = new int[6];
    }

    private String tape = "";
    private Text text = withoutClauses();
    private int[] fault = {NONE, NONE};
    private final List<Hand> hands = new ArrayList<>();
    private final List<Order> orders = new ArrayList<>();
    private final List<int[]> breaches = new ArrayList<>();
    private final Set<Integer> galley = new HashSet<>();
    private int next = 0;

    private static Text withoutClauses() {
        Text t = new Text();
        for (int i = 0; i < 48; i++) {
            t.round.add(0);
        }
        return t;
    }

    // ---- the text

    int feed(int... words) {
        if (tape.length() + 20 > 400) {
            return NONE;
        }
        StringBuilder more = new StringBuilder(tape);
        for (int word : words) {
            for (int i = 3; i >= 0; i--) {
                more.append((char) (word >>> 8 * i & 255));
            }
        }
        tape = more.toString();
        return tape.length();
    }

    int end(int n) {
        if (n < 0 || n > tape.length()) {
            return NONE;
        }
        tape = tape.substring(0, n);
        return n;
    }

    int text() {
        String read = tape;
        tape = "";
        try {
            text = parse(read);
        } catch (Fault f) {
            fault = new int[] {f.number, f.place};
            return NONE;
        }
        fault = new int[] {0, NONE};
        next = 0;
        orders.clear();
        breaches.clear();
        galley.clear();
        for (int h = 0; h < hands.size(); h++) {
            Hand anew = new Hand();
            anew.watch = hands.get(h).watch;
            anew.skills = hands.get(h).skills;
            hands.set(h, anew);
        }
        return text.bills.size();
    }

    private static List<Token> tokens(String s) {
        List<Token> all = new ArrayList<>();
        Matcher m = TOKEN.matcher(s);
        int at = 0;
        while (at < s.length() && m.find(at)) {
            Token t = new Token();
            for (int g = 1; g <= 3; g++) {
                if (m.group(g) != null) {
                    t.word = m.group(g);
                    t.place = m.start(g);
                }
            }
            at = m.end();
            if (!t.word.isEmpty()) {
                all.add(t);
            }
        }
        Token last = new Token();
        last.place = s.length();
        all.add(last);
        return all;
    }

    private static int number(Token t, int low, int high) throws Fault {
        if (!t.isNumber()) {
            throw new Fault(1, t.place);
        }
        String digits = t.word.replaceFirst("^0+(?=.)", "");
        int value = digits.length() > 6 ? 999999 : Integer.parseInt(digits);
        if (value < low || value > high) {
            throw new Fault(3, t.place);
        }
        return value;
    }

    private static void sign(Token t, String wanted) throws Fault {
        if (!t.word.equals(wanted)) {
            throw new Fault(1, t.place);
        }
    }

    private static Text parse(String s) throws Fault {
        List<Token> all = tokens(s);
        Text t = withoutClauses();
        Set<String> clauses = new HashSet<>();
        Set<String> names = new HashSet<>();
        int i = 0;
        while (!all.get(i).word.isEmpty()) {
            Token head = all.get(i++);
            if (!KEYWORDS.contains(head.word)) {
                throw new Fault(1, head.place);
            }
            if (!head.word.equals("bill") && !clauses.add(head.word)) {
                throw new Fault(2, head.place);
            }
            if (head.word.equals("watch")) {
                t.round.clear();
                int spans = 0;
                do {
                    int watch = number(all.get(i), 0, 2);
                    if (++spans > 12) {
                        throw new Fault(4, all.get(i).place);
                    }
                    int bells = number(all.get(i + 1), 1, 48);
                    for (int b = 0; b < bells; b++) {
                        t.round.add(watch);
                    }
                    i += 2;
                } while (!all.get(i).word.equals(";"));
            } else if (head.word.equals("rest")) {
                int d = number(all.get(i++), 1, 96);
                int r = number(all.get(i++), 0, d);
                t.rest = new int[] {d, r, number(all.get(i++), 0, d)};
            } else if (head.word.equals("bill")) {
                i = parseBill(all, i, t, names);
            } else {
                int high = head.word.equals("dull") ? 8 : head.word.equals("learn") ? 100 : 16;
                t.settings.put(head.word, number(all.get(i++), 0, high));
            }
            sign(all.get(i++), ";");
        }
        return t;
    }

    private static int parseBill(List<Token> all, int from, Text t, Set<String> names) throws Fault {
        int i = from;
        Token name = all.get(i++);
        if (!name.isName()) {
            throw new Fault(1, name.place);
        }
        if (!names.add(name.word)) {
            throw new Fault(2, name.place);
        }
        if (names.size() == 9) {
            throw new Fault(4, name.place);
        }
        Bill bill = new Bill();
        bill.bells = number(all.get(i++), 1, 48);
        sign(all.get(i++), ":");
        do {
            if (!all.get(i).word.matches("[a-f]")) {
                throw new Fault(1, all.get(i).place);
            }
            int skill = all.get(i++).word.charAt(0) - 'a';
            int stations = number(all.get(i), 1, 8);
            for (int k = 0; k < stations; k++) {
                bill.skills.add(skill);
            }
            if (bill.skills.size() > 12) {
                throw new Fault(4, all.get(i).place);
            }
            i++;
        } while (!all.get(i).word.equals(";"));
        t.bills.add(bill);
        return i;
    }

    int fault(int what) {
        return what == 0 || what == 1 ? fault[what] : NONE;
    }

    // ---- hands

    int hand(int watch, int skills) {
        if (watch < 0 || watch > 2 || skills < 0 || skills > 63 || hands.size() == 16 || next > 0) {
            return NONE;
        }
        Hand h = new Hand();
        h.watch = watch;
        h.skills = skills;
        hands.add(h);
        return hands.size() - 1;
    }

    boolean sick(int h, int bells) {
        if (h < 0 || h >= hands.size() || bells < 0 || bells > 480) {
            return false;
        }
        hands.get(h).sickUntil = next + bells;
        return true;
    }

    private boolean isSick(int h) {
        return hands.get(h).sickUntil > next;
    }

    int handOf(int n, int what) {
        if (n < 0 || n >= hands.size()) {
            return NONE;
        }
        Hand h = hands.get(n);
        if (what >= 10 && what <= 15) {
            return h.learned[what - 10];
        }
        if (what < 0 || what > 7) {
            return NONE;
        }
        int latest = next == 0 ? NONE : h.places.get(next - 1);
        int worked = 0;
        for (int p : h.places) {
            worked += p == 0 ? 0 : 1;
        }
        return new int[] {h.watch, h.skills, Math.max(0, h.sickUntil - next), h.turns, h.fills,
            h.breaches, worked, latest}[what];
    }

    int bill(int b, int what) {
        if (b < 0 || b >= text.bills.size()) {
            return NONE;
        }
        Bill bill = text.bills.get(b);
        if (what >= 100 && what < 100 + bill.skills.size()) {
            return bill.skills.get(what - 100);
        }
        return what == 0 ? bill.bells : what == 1 ? bill.skills.size() : NONE;
    }

    int watch(int ahead) {
        return ahead < 0 || ahead > 1000 ? NONE : text.round.get((next + ahead) % text.round.size());
    }

    // ---- orders

    private boolean lasts(Order o) {
        return o.firstBell + o.bells > next;
    }

    /** The order that lasts at whose station the hand is, or NONE. */
    private int stationOrder(int h) {
        for (int o = 0; o < orders.size(); o++) {
            for (int other : orders.get(o).hands) {
                if (lasts(orders.get(o)) && other == h) {
                    return o;
                }
            }
        }
        return NONE;
    }

    private boolean isLearner(int h) {
        for (Order o : orders) {
            for (int other : o.learners) {
                if (lasts(o) && other == h) {
                    return true;
                }
            }
        }
        return false;
    }

    private boolean canServe(int h, int skill) {
        return (hands.get(h).skills >> skill & 1) == 1 && !isSick(h) && stationOrder(h) == NONE
            && !isLearner(h);
    }

    /** All ways from a station on, by the hands that are used: the fewest called, or a thousand. */
    private int fewest(boolean[][] fits, int station, int used, Map<Integer, Integer> known) {
        if (station == fits.length) {
            return 0;
        }
        Integer before = known.get(station << 16 | used);
        if (before != null) {
            return before;
        }
        int best = 1000;
        for (int h = 0; h < hands.size(); h++) {
            if (fits[station][h] && (used >> h & 1) == 0) {
                int calls = hands.get(h).watch == watch(0) ? 0 : 1;
                best = Math.min(best, calls + fewest(fits, station + 1, used | 1 << h, known));
            }
        }
        known.put(station << 16 | used, best);
        return best;
    }

    private boolean[][] fits(int bill) {
        List<Integer> skills = text.bills.get(bill).skills;
        boolean[][] fits = new boolean[skills.size()][hands.size()];
        for (int i = 0; i < fits.length; i++) {
            for (int h = 0; h < hands.size(); h++) {
                fits[i][h] = canServe(h, skills.get(i));
            }
        }
        return fits;
    }

    int order(int bill) {
        if (bill < 0 || bill >= text.bills.size() || orders.size() == 60) {
            return NONE;
        }
        boolean[][] fits = fits(bill);
        Map<Integer, Integer> known = new HashMap<>();
        int called = fewest(fits, 0, 0, known);
        if (called >= 1000) {
            return NONE;
        }
        Order o = new Order();
        o.bill = bill;
        o.firstBell = next;
        o.bells = text.bills.get(bill).bells;
        o.called = called;
        o.hands = new int[fits.length];
        o.learners = new int[fits.length];
        Arrays.fill(o.learners, NONE);
        int used = 0;
        int left = called;
        for (int i = 0; i < fits.length; i++) {
            int h = 0;
            while (!fits[i][h] || (used >> h & 1) == 1
                || left != callsOf(h) + fewest(fits, i + 1, used | 1 << h, known)) {
                h++;
            }
            o.hands[i] = h;
            used |= 1 << h;
            left -= callsOf(h);
        }
        orders.add(o);
        if (text.settings.get("learn") > 0) {
            for (int i = 0; i < fits.length; i++) {
                o.learners[i] = learnerOf(text.bills.get(bill).skills.get(i));
            }
        }
        return orders.size() - 1;
    }

    private int callsOf(int h) {
        return hands.get(h).watch == watch(0) ? 0 : 1;
    }

    private int learnerOf(int skill) {
        List<Integer> may = new ArrayList<>();
        for (int h = 0; h < hands.size(); h++) {
            if (callsOf(h) == 0 && !isSick(h) && (hands.get(h).skills >> skill & 1) == 0
                && stationOrder(h) == NONE && !isLearner(h)) {
                may.add(h);
            }
        }
        // The sort is stable: of like ones the least number stays first.
        may.sort((a, b) -> hands.get(b).learned[skill] - hands.get(a).learned[skill]);
        return may.isEmpty() ? NONE : may.get(0);
    }

    int ordered(int n, int what) {
        if (n < 0 || n >= orders.size()) {
            return NONE;
        }
        Order o = orders.get(n);
        if (what >= 100 && what < 100 + o.hands.length) {
            return o.hands[what - 100];
        }
        if (what >= 200 && what < 200 + o.learners.length) {
            return o.learners[what - 200];
        }
        if (what < 0 || what > 3) {
            return NONE;
        }
        int learners = 0;
        for (int l : o.learners) {
            learners += l == NONE ? 0 : 1;
        }
        return new int[] {o.bill, Math.max(0, o.firstBell + o.bells - next), o.called, learners}[what];
    }

    int could(int bill) {
        if (bill < 0 || bill >= text.bills.size()) {
            return NONE;
        }
        boolean[][] fits = fits(bill);
        int[] stationOf = new int[hands.size()];
        Arrays.fill(stationOf, NONE);
        int filled = 0;
        for (int i = 0; i < fits.length; i++) {
            filled += findHand(fits, i, stationOf, new boolean[hands.size()]) ? 1 : 0;
        }
        return filled;
    }

    private static boolean findHand(boolean[][] fits, int station, int[] stationOf, boolean[] seen) {
        for (int h = 0; h < stationOf.length; h++) {
            if (fits[station][h] && !seen[h]) {
                seen[h] = true;
                if (stationOf[h] == NONE || findHand(fits, stationOf[h], stationOf, seen)) {
                    stationOf[h] = station;
                    return true;
                }
            }
        }
        return false;
    }

    // ---- bells

    int bells(int n) {
        if (n < 1 || n > 480 || next + n > 20000) {
            return NONE;
        }
        for (int i = 0; i < n; i++) {
            workBell();
        }
        return next;
    }

    private void workBell() {
        int[] places = new int[hands.size()];
        if (next % 48 == 0) {
            galley.clear();
            List<Integer> well = new ArrayList<>();
            for (int h = 0; h < hands.size(); h++) {
                if (!isSick(h)) {
                    well.add(h);
                }
            }
            well.sort((a, b) -> hands.get(a).turns - hands.get(b).turns);
            for (int i = 0; i < Math.min(well.size(), text.settings.get("dull")); i++) {
                galley.add(well.get(i));
                hands.get(well.get(i)).turns++;
            }
        }
        int onWatch = 0;
        List<Integer> others = new ArrayList<>();
        for (int h = 0; h < hands.size(); h++) {
            int station = isSick(h) ? NONE : stationOrder(h);
            hands.get(h).stationOrders.add(station);
            places[h] += station != NONE ? 4 : 0;
            places[h] += !isSick(h) && galley.contains(h) && next % 48 < 8 ? 8 : 0;
            if (!isSick(h) && hands.get(h).watch == watch(0)) {
                places[h] += 1;
                onWatch++;
            } else if (!isSick(h) && station == NONE) {
                others.add(h);
            }
        }
        others.sort((a, b) -> hands.get(a).fills - hands.get(b).fills);
        for (int i = 0; i < Math.min(others.size(), text.settings.get("least") - onWatch); i++) {
            places[others.get(i)] += 2;
            hands.get(others.get(i)).fills++;
        }
        for (int h = 0; h < hands.size(); h++) {
            hands.get(h).places.add(places[h]);
        }
        next++;
        endOrders();
        for (int h = 0; h < hands.size(); h++) {
            askBreach(h);
        }
    }

    private void endOrders() {
        for (Order o : orders) {
            for (int i = 0; i < o.learners.length; i++) {
                if (o.firstBell + o.bells == next && o.learners[i] != NONE) {
                    Hand h = hands.get(o.learners[i]);
                    int skill = text.bills.get(o.bill).skills.get(i);
                    if (++h.learned[skill] == text.settings.get("learn")) {
                        h.skills |= 1 << skill;
                    }
                }
            }
        }
    }

    private void askBreach(int n) {
        Hand h = hands.get(n);
        int d = text.rest[0];
        if (next < d) {
            return;
        }
        int free = 0;
        int together = 0;
        int run = 0;
        int cause = NONE;
        for (int t = next - d; t < next; t++) {
            run = h.places.get(t) == 0 ? run + 1 : 0;
            free += h.places.get(t) == 0 ? 1 : 0;
            together = Math.max(together, run);
            cause = Math.max(cause, h.stationOrders.get(t));
        }
        if (free < text.rest[1] || together < text.rest[2]) {
            h.breaches++;
            breaches.add(new int[] {next - 1, n, cause});
        }
    }

    int breach(int i, int what) {
        boolean is = i >= 0 && i < Math.min(200, breaches.size()) && what >= 0 && what <= 2;
        return is ? breaches.get(i)[what] : NONE;
    }

    int about(int what) {
        int[] all = {hands.size(), text.bills.size(), next, orders.size(), breaches.size(),
            tape.length(), text.round.size(), text.rest[0], text.rest[1], text.rest[2],
            text.settings.get("dull"), text.settings.get("learn"), text.settings.get("least")};
        return what >= 0 && what < all.length ? all[what] : NONE;
    }
}
