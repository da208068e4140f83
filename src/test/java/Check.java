/** What the tests share: answers are compared and counted, texts are fed. */
final class Check {
    private static final int CHUNK = 20;
    private static int wrong = 0;
    private static int asked = 0;

    private Check() {
    }

    static void due(String what, long got, long want) {
        asked++;
        if (got != want) {
            wrong++;
            System.out.println(what + " answered " + got + ", due is " + want);
        }
    }

    static void due(String what, boolean got, boolean want) {
        due(what, got ? 1 : 0, want ? 1 : 0);
    }

    /** Ends the test with exit code 1 if an answer was not as due. */
    static void finish() {
        System.out.println(asked + " answers asked, " + wrong + " not as due");
        if (wrong != 0) {
            System.exit(1);
        }
    }

    /** Puts a text on the tape, whole; what was there is dropped. */
    static void tape(WatchBill x, String text) {
        x.end(0);
        for (int at = 0; at < text.length(); at += CHUNK) {
            x.feed(four(text, at), four(text, at + 4), four(text, at + 8),
                four(text, at + 12), four(text, at + 16));
        }
        due("end of [" + text + "]", x.end(text.length()), text.length());
    }

    static int four(String text, int at) {
        int word = 0;
        for (int i = at; i < at + 4; i++) {
            word = word << 8 | (i < text.length() ? text.charAt(i) & 255 : 32);
        }
        return word;
    }

    static int text(WatchBill x, String text) {
        tape(x, text);
        return x.text();
    }

    /** A new object with a sound text. */
    static WatchBill ship(String text) {
        WatchBill x = new WatchBill();
        if (text(x, text) == WatchBill.NONE) {
            due("fault of [" + text + "] at " + x.fault(1), x.fault(0), 0);
        }
        return x;
    }

    /** A text is refused with a fault at a place, and the tape is empty then. */
    static void faulty(String text, int fault, int place) {
        WatchBill x = new WatchBill();
        due("text of [" + text + "]", text(x, text), WatchBill.NONE);
        due("fault of [" + text + "]", x.fault(0), fault);
        due("place of the fault of [" + text + "]", x.fault(1), place);
        due("tape behind [" + text + "]", x.about(5), 0);
    }

    static void sound(String text, int bills) {
        WatchBill x = new WatchBill();
        due("text of [" + text + "]", text(x, text), bills);
        due("fault of [" + text + "]", x.fault(0), 0);
        due("place of the fault of [" + text + "]", x.fault(1), WatchBill.NONE);
        due("bills of [" + text + "]", x.about(1), bills);
    }
}
