/** What the tests share: answers are compared and counted, texts are fed. */
final class Check {
    private static final int CHUNK = 20;
    private static final int NONE = WatchBill.NONE;
    private static int wrong = 0;
    private static int asked = 0;
    private static String cited = "";

    private Check() {
    }

    /**
     * The sentence of the document that the answers behind this are due by; SentencesTest looks
     * for its words in the document, so it stands there word by word.
     */
    static void says(String where, String sentence) {
        cited = "[" + where + ": " + sentence + "] ";
    }

    static void due(String what, long got, long want) {
        asked++;
        if (got != want) {
            wrong++;
            System.out.println(cited + what + " answered " + got + ", due is " + want);
        }
    }

    static void due(String what, boolean got, boolean want) {
        due(what, got ? 1 : 0, want ? 1 : 0);
    }

    static void same(String what, String got, String want) {
        asked++;
        if (!got.equals(want)) {
            wrong++;
            System.out.println(cited + what + ":\n" + got + ", due is\n" + want);
        }
    }

    /** Ends the test with exit code 1 if an answer was not as due. */
    static void finish() {
        System.out.println(asked + " answers asked, " + wrong + " not as due");
        if (wrong != 0) {
            System.exit(1);
        }
    }

    /** Puts a text on the tape, whole; what was there is dropped. */
    static void tape(WatchBill x, String text) {
        x.end(0);
        for (int at = 0; at < text.length(); at += CHUNK) {
            x.feed(four(text, at), four(text, at + 4), four(text, at + 8),
                four(text, at + 12), four(text, at + 16));
        }
        due("end of [" + text + "]", x.end(text.length()), text.length());
    }

    static int four(String text, int at) {
        int word = 0;
        for (int i = at; i < at + 4; i++) {
            word = word << 8 | (i < text.length() ? text.charAt(i) & 255 : 32);
        }
        return word;
    }

    static int text(WatchBill x, String text) {
        tape(x, text);
        return x.text();
    }

    /** A new object with a sound text. */
    static WatchBill ship(String text) {
        WatchBill x = new WatchBill();
        if (text(x, text) == NONE) {
            due("fault of [" + text + "] at " + x.fault(1), x.fault(0), 0);
        }
        return x;
    }

    /** A new object with a sound text and hands: each two numbers a WATCH and a set of skills. */
    static WatchBill ship(String text, int... hands) {
        WatchBill x = ship(text);
        for (int i = 0; i + 1 < hands.length; i += 2) {
            due("hand", x.hand(hands[i], hands[i + 1]), i / 2);
        }
        return x;
    }

    /** A text is refused with a fault at a place, and the tape is empty then. */
    static void faulty(String text, int fault, int place) {
        WatchBill x = new WatchBill();
        due("text of [" + text + "]", text(x, text), NONE);
        due("fault of [" + text + "]", x.fault(0), fault);
        due("place of the fault of [" + text + "]", x.fault(1), place);
        due("tape behind [" + text + "]", x.about(5), 0);
    }

    static void sound(String text, int bills) {
        WatchBill x = new WatchBill();
        due("text of [" + text + "]", text(x, text), bills);
        due("fault of [" + text + "]", x.fault(0), 0);
        due("place of the fault of [" + text + "]", x.fault(1), NONE);
        due("bills of [" + text + "]", x.about(1), bills);
    }

    /** Where each hand is at the latest bell. */
    static void places(WatchBill x, int... places) {
        allOf("places behind bell " + (x.about(2) - 1), x, 7, places);
    }

    /** One answer of handOf for each hand. */
    static void allOf(String told, WatchBill x, int what, int... answers) {
        for (int h = 0; h < answers.length; h++) {
            due(told + ": hand " + h, x.handOf(h, what), answers[h]);
        }
    }

    static void stations(WatchBill x, int o, int... hands) {
        for (int i = 0; i < hands.length; i++) {
            due("order " + o + ", station " + i, x.ordered(o, 100 + i), hands[i]);
        }
        due("order " + o + ", behind its stations", x.ordered(o, 100 + hands.length), NONE);
    }

    static void learners(WatchBill x, int o, int... hands) {
        int number = 0;
        for (int i = 0; i < hands.length; i++) {
            due("order " + o + ", learner " + i, x.ordered(o, 200 + i), hands[i]);
            number += hands[i] == NONE ? 0 : 1;
        }
        due("order " + o + ", behind its learners", x.ordered(o, 200 + hands.length), NONE);
        due("order " + o + ", learners", x.ordered(o, 3), number);
    }

    /** A breach with its bell, hand and cause. */
    static void breach(WatchBill x, int i, int bell, int hand, int cause) {
        due("breach " + i + ", its bell", x.breach(i, 0), bell);
        due("breach " + i + ", its hand", x.breach(i, 1), hand);
        due("breach " + i + ", its cause", x.breach(i, 2), cause);
    }

    /** All that a small ship tells but its tape and faults, so that two can be compared. */
    static String state(WatchBill x) {
        StringBuilder s = new StringBuilder();
        for (int what = 0; what <= 12; what++) {
            s.append(what == 5 ? "" : x.about(what) + " ");
        }
        for (int h = 0; h < x.about(0); h++) {
            s.append("\nhand:");
            for (int what = 0; what <= 15; what++) {
                s.append(' ').append(x.handOf(h, what));
            }
        }
        for (int b = 0; b < x.about(1); b++) {
            s.append("\nbill:").append(x.bill(b, 0)).append(' ').append(x.bill(b, 1));
            s.append(' ').append(x.bill(b, 100)).append(' ').append(x.could(b));
        }
        for (int o = 0; o < x.about(3); o++) {
            s.append("\norder:");
            for (int what : new int[] {0, 1, 2, 3, 100, 101, 200, 201}) {
                s.append(' ').append(x.ordered(o, what));
            }
        }
        for (int i = 0; i < Math.min(10, x.about(4)); i++) {
            s.append("\nbreach: ").append(x.breach(i, 0)).append(' ').append(x.breach(i, 1));
            s.append(' ').append(x.breach(i, 2));
        }
        s.append("\nwatch:");
        for (int ahead = 0; ahead < 9; ahead++) {
            s.append(' ').append(x.watch(ahead));
        }
        return s.toString();
    }
}
