/** Promises 6 to 8: the hands, sick or well, and what is told of them. */
public final class CrewTest {
    private static final int NONE = WatchBill.NONE;

    public static void main(String[] args) {
        hands();
        sickness();
        answersOfHands();
        sickHandsAreNowhere();
        Check.finish();
    }

    private static void hands() {
        WatchBill x = new WatchBill();
        int[][] others = {{-1, 0}, {3, 0}, {0, -1}, {0, 64}, {Integer.MAX_VALUE, 0},
            {0, Integer.MIN_VALUE}};
        for (int[] other : others) {
            Check.due("hand " + other[0] + " " + other[1], x.hand(other[0], other[1]), NONE);
        }
        Check.due("no hands yet", x.about(0), 0);
        for (int h = 0; h < 16; h++) {
            Check.due("hand", x.hand(h % 3, h * 4 + 3), h);
            Check.due("hands", x.about(0), h + 1);
        }
        Check.due("hand 17", x.hand(0, 0), NONE);
        Check.due("hands", x.about(0), 16);
        for (int h = 0; h < 16; h++) {
            Check.due("WATCH of " + h, x.handOf(h, 0), h % 3);
            Check.due("skills of " + h, x.handOf(h, 1), h * 4 + 3);
        }
        WatchBill y = new WatchBill();
        y.hand(0, 0);
        y.bells(1);
        Check.due("hand behind bell 0", y.hand(0, 0), NONE);
        y.text();
        Check.due("hand at bell 0 again", y.hand(0, 0), 1);
    }

    private static void sickness() {
        WatchBill x = new WatchBill();
        Check.due("sick without hands", x.sick(0, 1), false);
        x.hand(0, 0);
        Check.due("sick 0 480", x.sick(0, 480), true);
        Check.due("bells left", x.handOf(0, 2), 480);
        Check.due("sick 0 481", x.sick(0, 481), false);
        Check.due("sick 0 -1", x.sick(0, -1), false);
        Check.due("sick 1 1", x.sick(1, 1), false);
        Check.due("sick -1 1", x.sick(-1, 1), false);
        Check.due("sick far", x.sick(Integer.MAX_VALUE, 1), false);
        Check.due("bells left", x.handOf(0, 2), 480);
        x.bells(100);
        Check.due("bells left behind 100", x.handOf(0, 2), 380);
        Check.due("sick in place of those", x.sick(0, 3), true);
        x.bells(2);
        Check.due("bells left", x.handOf(0, 2), 1);
        Check.due("SICK at the latest bell", x.handOf(0, 7), 0);
        x.bells(1);
        Check.due("bells left", x.handOf(0, 2), 0);
        Check.due("SICK at the latest bell", x.handOf(0, 7), 0);
        x.bells(1);
        Check.due("bells left", x.handOf(0, 2), 0);
        Check.due("well again", x.handOf(0, 7), 1);
        Check.due("bells WORKED", x.handOf(0, 6), 1);
        x.sick(0, 9);
        Check.due("sick for 0 bells", x.sick(0, 0), true);
        x.bells(1);
        Check.due("well at once", x.handOf(0, 7), 1);
    }

    private static void answersOfHands() {
        WatchBill x = Check.ship("learn 2;least 2;dull 1;rest 1 1 0;bill b 1:f 1;");
        x.hand(0, 0);
        x.hand(1, 32);
        Check.due("ahead of a bell", x.handOf(0, 7), NONE);
        x.order(0);
        x.bells(1);
        int[] first = {0, 0, 0, 1, 0, 1, 1, 9, NONE, NONE, 0, 0, 0, 0, 0, 1, NONE};
        int[] second = {1, 32, 0, 0, 0, 1, 1, 4, NONE, NONE, 0, 0, 0, 0, 0, 0, NONE};
        for (int what = 0; what < first.length; what++) {
            Check.due("handOf 0 " + what, x.handOf(0, what), first[what]);
            Check.due("handOf 1 " + what, x.handOf(1, what), second[what]);
        }
        x.bells(1);
        Check.due("FILLING", x.handOf(1, 7), 2);
        Check.due("FILLS", x.handOf(1, 4), 1);
        int[] others = {-1, 8, 9, 16, 100, Integer.MIN_VALUE, Integer.MAX_VALUE};
        for (int what : others) {
            Check.due("handOf 0 " + what, x.handOf(0, what), NONE);
        }
        Check.due("handOf -1", x.handOf(-1, 0), NONE);
        Check.due("handOf 2", x.handOf(2, 0), NONE);
        Check.due("handOf 2, learned", x.handOf(2, 10), NONE);
        Check.due("handOf far", x.handOf(Integer.MIN_VALUE, 0), NONE);
    }

    private static void sickHandsAreNowhere() {
        WatchBill x = Check.ship("dull 2;least 2;bill b 9:a 1;");
        x.hand(0, 1);
        x.hand(0, 0);
        Check.due("order", x.order(0), 0);
        x.bells(1);
        Check.due("on watch, at its station, in the galley", x.handOf(0, 7), 13);
        x.sick(0, 2);
        x.bells(2);
        Check.due("sick", x.handOf(0, 7), 0);
        Check.due("its turn stays", x.handOf(0, 3), 1);
        Check.due("its station stays", x.ordered(0, 100), 0);
        x.bells(1);
        Check.due("back in all places", x.handOf(0, 7), 13);
        Check.due("bells WORKED", x.handOf(0, 6), 2);
    }
}
