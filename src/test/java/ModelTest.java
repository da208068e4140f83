import java.util.Random;

/** Random runs, the same ones each time: every answer of the class is that of the model. */
public final class ModelTest {
    private static final int RUNS = 2000;
    private static final int CALLS = 120;
    private static final String[] WORDS = {"watch", "rest", "bill", "dull", "learn", "least", "a",
        "b", "f", "g", "x", "abcdefgh", "abcdefghi", ":", ";", ";", "0", "1", "2", "3", "8", "9",
        "16", "48", "49", "96", "100", "7777777777777", "#", "\t", "\n"};

    private static final int[] LIMITS = {0, 2, 16, 48, 60, 63, 100, 112, 200, 212, 400, 480, 1000, 20000};

    private final Random random;
    private final int run;
    private final WatchBill x = new WatchBill();
    private final Model model = new Model();

    private ModelTest(int run) {
        this.run = run;
        random = new Random(run);
    }

    public static void main(String[] args) {
        int[] seen = new int[3];
        for (int run = 0; run < RUNS; run++) {
            ModelTest test = new ModelTest(run);
            test.play();
            seen[0] += test.x.about(3);
            seen[1] += test.x.about(4);
            seen[2] += Math.max(0, test.x.fault(0)) > 0 ? 1 : 0;
        }
        // A test that never orders, never breaks a rest, never faults would say nothing.
        Check.due("orders, breaches and faults come up", seen[0] > RUNS && seen[1] > RUNS && seen[2] > 9, true);
        Check.finish();
    }

    private int below(int n) {
        return random.nextInt(n);
    }

    private boolean oneIn(int n) {
        return below(n) == 0;
    }

    private void play() {
        boolean manyHands = oneIn(2);
        text(soundText());
        int hands = manyHands ? 16 : below(10);
        for (int i = 0; i < hands; i++) {
            hand();
        }
        for (int i = 0; i < CALLS; i++) {
            call();
        }
        askAll();
    }

    private void call() {
        if (oneIn(8)) {
            wildCall(below(13));
            return;
        }
        int kind = below(100);
        if (kind < 35) {
            int bill = below(9) - (oneIn(9) ? 1 : 0);
            bill = oneIn(4) ? bill : bill % Math.max(1, x.about(1));
            due("could " + bill, x.could(bill), model.could(bill));
            due("order " + bill, x.order(bill), model.order(bill));
            askOrder(x.about(3) - 1);
        } else if (kind < 70) {
            int n = oneIn(20) ? below(600) - 50 : oneIn(4) ? below(60) : 1 + below(4);
            due("bells " + n, x.bells(n), model.bells(n));
            askHands();
        } else if (kind < 85) {
            int h = below(17) - (oneIn(9) ? 1 : 0);
            int bells = oneIn(8) ? below(500) - 2 : below(30);
            due("sick " + h + " " + bells, x.sick(h, bells) ? 1 : 0, model.sick(h, bells) ? 1 : 0);
        } else if (kind < 90) {
            hand();
        } else if (kind < 97) {
            int ahead = oneIn(9) ? below(1100) - 50 : below(60);
            due("watch " + ahead, x.watch(ahead), model.watch(ahead));
        } else {
            text(oneIn(2) ? soundText() : spoiledText());
            askAll();
        }
    }

    /** Numbers at the ends of what an int can be, and about the document's limits. */
    private int wild() {
        switch (below(4)) {
            case 0:
                return LIMITS[below(LIMITS.length)] + below(3) - 1;
            case 1:
                return (oneIn(2) ? Integer.MIN_VALUE : Integer.MAX_VALUE - 250) + below(251);
            case 2:
                return random.nextInt();
            default:
                return below(20);
        }
    }

    private void wildCall(int method) {
        int a = wild();
        int b = wild();
        String told = method + ": " + a + " " + b;
        int[] w = {a, b, random.nextInt(), random.nextInt(), random.nextInt()};
        switch (method) {
            case 0:
                due("feed", x.feed(w[0], w[1], w[2], w[3], w[4]), model.feed(w));
                break;
            case 1:
                due("end " + told, x.end(a), model.end(a));
                break;
            case 2:
                due("fault " + told, x.fault(a), model.fault(a));
                break;
            case 3:
                due("hand " + told, x.hand(a, b), model.hand(a, b));
                break;
            case 4:
                due("sick " + told, x.sick(a, b) ? 1 : 0, model.sick(a, b) ? 1 : 0);
                break;
            case 5:
                due("handOf " + told, x.handOf(a, b), model.handOf(a, b));
                break;
            case 6:
                due("bill " + told, x.bill(a, b), model.bill(a, b));
                break;
            case 7:
                due("watch " + told, x.watch(a), model.watch(a));
                break;
            case 8:
                due("could " + told, x.could(a), model.could(a));
                due("order " + told, x.order(a), model.order(a));
                break;
            case 9:
                due("ordered " + told, x.ordered(a, b), model.ordered(a, b));
                break;
            case 10:
                due("bells " + told, x.bells(a), model.bells(a));
                break;
            case 11:
                due("breach " + told, x.breach(a, b), model.breach(a, b));
                break;
            default:
                due("about " + told, x.about(a), model.about(a));
        }
    }

    private void hand() {
        int watch = oneIn(30) ? below(9) - 3 : below(3);
        int skills = oneIn(30) ? below(200) - 60 : oneIn(2) ? below(64) & below(64) : below(64);
        due("hand " + watch + " " + skills, x.hand(watch, skills), model.hand(watch, skills));
    }

    private void text(String text) {
        String cut = text.length() > 400 ? text.substring(0, 400) : text;
        // Bytes of wild calls may stand on the tape: only now and then they come ahead of the text.
        if (!oneIn(6)) {
            due("end 0", x.end(0), model.end(0));
        }
        for (int at = 0; at < cut.length(); at += 20) {
            int[] w = new int[5];
            for (int i = 0; i < 5; i++) {
                w[i] = Check.four(cut, at + 4 * i);
            }
            due("feed", x.feed(w[0], w[1], w[2], w[3], w[4]), model.feed(w));
        }
        due("end", x.end(cut.length()), model.end(cut.length()));
        due("text of [" + cut + "]", x.text(), model.text());
        for (int what = -1; what < 3; what++) {
            due("fault " + what + " of [" + cut + "]", x.fault(what), model.fault(what));
        }
    }

    private String soundText() {
        StringBuilder s = new StringBuilder();
        if (!oneIn(5)) {
            s.append("watch");
            for (int i = oneIn(9) ? 12 : 1 + below(4); i > 0; i--) {
                s.append(' ').append(below(3)).append(' ').append(1 + below(oneIn(9) ? 48 : 6));
            }
            s.append(";");
        }
        for (int b = oneIn(9) ? below(9) : 1 + below(3); b > 0; b--) {
            s.append("bill ").append((char) ('a' + b)).append(" ");
            s.append(1 + below(oneIn(5) ? 48 : 5)).append(":");
            int left = oneIn(3) ? 12 : 1 + below(5);
            while (left > 0) {
                int number = 1 + below(Math.min(left, oneIn(3) ? 8 : 2));
                s.append((char) ('a' + below(6))).append(number).append(' ');
                left -= number;
            }
            s.append(";");
        }
        if (!oneIn(4)) {
            int d = 1 + below(oneIn(3) ? 96 : 12);
            s.append("rest ").append(d).append(' ').append(below(d + 1)).append(' ');
            s.append(oneIn(2) ? 0 : below(d + 1)).append(";");
        }
        s.append(oneIn(3) ? "" : "dull " + below(9) + ";");
        s.append(oneIn(4) ? "" : "learn " + below(oneIn(9) ? 101 : 4) + "\n;");
        s.append(oneIn(3) ? "" : " least " + below(17) + ";");
        return s.toString();
    }

    private String spoiledText() {
        StringBuilder s = new StringBuilder(soundText());
        for (int i = 1 + below(3); i > 0; i--) {
            int at = below(s.length() + 1);
            if (oneIn(3) && at < s.length()) {
                s.deleteCharAt(at);
            } else if (oneIn(8)) {
                s.setLength(at);
            } else {
                String word = WORDS[below(WORDS.length)];
                s.insert(at, oneIn(3) ? word : " " + word + " ");
            }
        }
        return oneIn(6) ? s + soundText() : s.toString();
    }

    private void askAll() {
        askHands();
        for (int o = -1; o <= x.about(3); o++) {
            askOrder(o);
        }
        for (int i = -1; i < Math.min(202, x.about(4) + 1); i++) {
            for (int what = -1; what < 4; what++) {
                due("breach " + i + " " + what, x.breach(i, what), model.breach(i, what));
            }
        }
        for (int b = -1; b <= x.about(1); b++) {
            for (int what = -1; what < 114; what++) {
                due("bill " + b + " " + what, x.bill(b, what), model.bill(b, what));
            }
        }
    }

    private void askHands() {
        for (int what = -1; what < 14; what++) {
            due("about " + what, x.about(what), model.about(what));
        }
        for (int h = -1; h <= x.about(0); h++) {
            for (int what = -1; what < 17; what++) {
                due("handOf " + h + " " + what, x.handOf(h, what), model.handOf(h, what));
            }
        }
    }

    private void askOrder(int o) {
        for (int what = -1; what < 214; what++) {
            due("ordered " + o + " " + what, x.ordered(o, what), model.ordered(o, what));
        }
    }

    private void due(String call, long got, long want) {
        Check.due("run " + run + ": " + call, got, want);
    }
}
