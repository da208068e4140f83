/** Promises 14 to 16: bells with galley and filling, breaches of rest, and what is told of all. */
public final class BellTest {
    private static final int NONE = WatchBill.NONE;

    public static void main(String[] args) {
        numbersOfBells();
        galleyTurns();
        galleyWithSickHands();
        onWatch();
        filling();
        fillingIsFair();
        fillingLeavesStations();
        learnersMayFill();
        fewFreeBells();
        fewFreeTogether();
        breachesOfAllBells();
        causes();
        causeLeavesTheRest();
        keptBreaches();
        restsBeginAnew();
        wrongInputs();
        Check.finish();
    }

    private static void numbersOfBells() {
        WatchBill x = new WatchBill();
        int[] others = {0, -1, 481, Integer.MIN_VALUE, Integer.MAX_VALUE};
        for (int n : others) {
            Check.due("bells " + n, x.bells(n), NONE);
        }
        Check.due("none worked", x.about(2), 0);
        Check.due("bells 1", x.bells(1), 1);
        Check.due("bells 480", x.bells(480), 481);
        for (int next = 961; next < 20000; next += 480) {
            Check.due("bells 480", x.bells(480), next);
        }
        int left = 20000 - x.about(2);
        Check.due("one more than 20000", x.bells(left + 1), NONE);
        Check.due("none worked", x.about(2), 20000 - left);
        Check.due("just 20000", x.bells(left), 20000);
        Check.due("no more", x.bells(1), NONE);
        Check.due("watch", x.watch(1000), 0);
    }

    private static void galleyTurns() {
        WatchBill x = Check.ship("watch 2 48;dull 2;");
        x.hand(0, 0);
        x.hand(0, 0);
        x.hand(0, 0);
        int[][] drawn = {{0, 1}, {0, 2}, {1, 2}, {0, 1}};
        for (int[] two : drawn) {
            for (int bell = 0; bell < 48; bell++) {
                x.bells(1);
                // Not at every bell: an object is used for at most 512 calls.
                for (int h = 0; h < 3 && (bell < 10 || bell == 47); h++) {
                    boolean isDrawn = h == two[0] || h == two[1];
                    Check.due("hand " + h + " at bell " + bell, x.handOf(h, 7), isDrawn && bell < 8 ? 8 : 0);
                }
            }
        }
        Check.due("turns", x.handOf(0, 3), 3);
        Check.due("turns", x.handOf(2, 3), 2);
        Check.due("bells WORKED", x.handOf(0, 6), 24);
        WatchBill few = Check.ship("dull 8;");
        few.hand(1, 0);
        few.bells(49);
        Check.due("fewer hands than dull", few.handOf(0, 3), 2);
    }

    private static void galleyWithSickHands() {
        WatchBill x = Check.ship("watch 2 48;dull 1;");
        x.hand(0, 0);
        x.hand(0, 0);
        x.sick(0, 1);
        x.bells(1);
        Check.due("a sick hand has no turn", x.handOf(0, 3), 0);
        Check.due("the other has it", x.handOf(1, 7), 8);
        x.sick(1, 2);
        x.bells(1);
        Check.due("sick then", x.handOf(1, 7), 0);
        Check.due("nobody in its place", x.handOf(0, 7), 0);
        x.bells(2);
        Check.due("well again", x.handOf(1, 7), 8);
        Check.due("one turn", x.handOf(1, 3), 1);
        x.bells(48 - 4);
        x.sick(0, 1);
        x.bells(1);
        Check.due("a day later", x.handOf(1, 3), 2);
        x.bells(48);
        Check.due("the fewest turns", x.handOf(0, 3), 1);
        Check.due("the fewest turns", x.handOf(1, 3), 2);
    }

    private static void onWatch() {
        WatchBill x = Check.ship("watch 0 1 1 2;");
        x.hand(0, 0);
        x.hand(1, 0);
        x.hand(2, 0);
        int[][] due = {{1, 0, 0}, {0, 1, 0}, {0, 1, 0}, {1, 0, 0}};
        for (int[] bell : due) {
            x.bells(1);
            for (int h = 0; h < 3; h++) {
                Check.due("hand " + h + " at bell " + (x.about(2) - 1), x.handOf(h, 7), bell[h]);
            }
        }
        Check.due("bells WORKED", x.handOf(0, 6), 2);
        Check.due("bells WORKED", x.handOf(2, 6), 0);
    }

    private static void filling() {
        WatchBill x = Check.ship("least 3;dull 1;");
        x.hand(1, 0);
        x.hand(0, 0);
        x.hand(2, 0);
        x.hand(1, 0);
        x.bells(1);
        int[] places = {10, 1, 2, 0};
        for (int h = 0; h < places.length; h++) {
            Check.due("hand " + h, x.handOf(h, 7), places[h]);
            Check.due("FILLS of " + h, x.handOf(h, 4), (places[h] & 2) / 2);
        }
        WatchBill few = Check.ship("least 16;");
        few.hand(1, 0);
        few.hand(0, 0);
        few.hand(2, 0);
        few.sick(2, 1);
        few.bells(2);
        Check.due("as there are", few.handOf(0, 4), 2);
        Check.due("not from the watch", few.handOf(1, 4), 0);
        Check.due("not a sick one", few.handOf(2, 4), 1);
        WatchBill enough = Check.ship("least 1;");
        enough.hand(0, 0);
        enough.hand(1, 0);
        enough.bells(5);
        Check.due("nobody lacks", enough.handOf(1, 4), 0);
    }

    private static void fillingIsFair() {
        WatchBill x = Check.ship("least 2;");
        x.hand(1, 0);
        x.hand(2, 0);
        x.hand(1, 0);
        int[][] due = {{2, 2, 0}, {2, 0, 2}, {0, 2, 2}, {2, 2, 0}};
        for (int[] bell : due) {
            x.bells(1);
            for (int h = 0; h < 3; h++) {
                Check.due("hand " + h + " at bell " + (x.about(2) - 1), x.handOf(h, 7), bell[h]);
            }
        }
    }

    private static void fillingLeavesStations() {
        WatchBill x = Check.ship("least 1;bill x 2:a 1;");
        x.hand(1, 1);
        x.hand(1, 0);
        x.order(0);
        x.bells(1);
        Check.due("at its station alone", x.handOf(0, 7), 4);
        Check.due("the other fills", x.handOf(1, 7), 2);
        x.sick(1, 1);
        x.bells(1);
        Check.due("at its station alone", x.handOf(0, 7), 4);
        Check.due("no fills", x.handOf(0, 4), 0);
        x.bells(1);
        Check.due("the order ended", x.handOf(0, 7), 2);
    }

    private static void learnersMayFill() {
        // A learner is at no station, so it fills once its watch is over.
        WatchBill x = Check.ship("watch 0 1 1 1;least 1;learn 1;bill x 2:a 1;");
        x.hand(0, 1);
        x.hand(0, 0);
        x.order(0);
        Check.due("learner", x.ordered(0, 200), 1);
        x.bells(1);
        Check.due("learner on watch", x.handOf(1, 7), 1);
        x.bells(1);
        Check.due("learner fills", x.handOf(1, 7), 2);
        Check.due("the hand at the station doesn't", x.handOf(0, 7), 4);
    }

    private static void fewFreeBells() {
        WatchBill x = Check.ship("watch 0 2 1 2;rest 4 3 0;");
        x.hand(0, 0);
        x.hand(2, 0);
        x.bells(3);
        Check.due("below D nobody is asked", x.about(4), 0);
        x.bells(1);
        Check.due("two of four free, three asked", x.about(4), 1);
        Check.due("its bell", x.breach(0, 0), 3);
        Check.due("its hand", x.breach(0, 1), 0);
        Check.due("without an order", x.breach(0, 2), NONE);
        Check.due("of the hand", x.handOf(0, 5), 1);
        Check.due("of the other", x.handOf(1, 5), 0);
        WatchBill enough = Check.ship("watch 0 2 1 2;rest 4 2 2;");
        enough.hand(0, 0);
        enough.bells(4);
        Check.due("just enough", enough.about(4), 0);
        enough.bells(1);
        Check.due("two free, together, still", enough.about(4), 0);
        enough.bells(1);
        Check.due("two free at the window's head", enough.about(4), 0);
        enough.bells(1);
        Check.due("the free ones of two windows aren't together", enough.about(4), 1);
        Check.due("its bell", enough.breach(0, 0), 6);
    }

    private static void fewFreeTogether() {
        WatchBill x = Check.ship("watch 0 1 1 2;rest 6 0 3;");
        x.hand(0, 0);
        x.hand(2, 0);
        x.bells(6);
        Check.due("never three together", x.about(4), 1);
        Check.due("its hand", x.breach(0, 1), 0);
        WatchBill sick = Check.ship("rest 3 0 2;");
        sick.hand(0, 0);
        sick.sick(0, 2);
        sick.bells(3);
        Check.due("sick bells are free", sick.about(4), 0);
        sick.bells(1);
        Check.due("one free at the head is too few", sick.about(4), 1);
        WatchBill longest = Check.ship("watch 0 1;rest 96 95 95;");
        longest.hand(0, 0);
        longest.sick(0, 95);
        longest.bells(96);
        Check.due("95 of 96", longest.about(4), 0);
        longest.bells(1);
        Check.due("94 of 96", longest.about(4), 1);
        Check.due("its bell", longest.breach(0, 0), 96);
    }

    private static void breachesOfAllBells() {
        WatchBill x = Check.ship("rest 1 1 1;");
        x.hand(0, 0);
        x.hand(1, 0);
        x.hand(0, 0);
        x.bells(3);
        Check.due("breaches", x.about(4), 6);
        for (int i = 0; i < 6; i++) {
            Check.due("bell of " + i, x.breach(i, 0), i / 2);
            Check.due("hand of " + i, x.breach(i, 1), i % 2 * 2);
        }
        Check.due("of hand 0", x.handOf(0, 5), 3);
        Check.due("of hand 1", x.handOf(1, 5), 0);
        WatchBill none = Check.ship("rest 1 0 0;");
        none.hand(0, 0);
        none.bells(10);
        Check.due("nothing asked", none.about(4), 0);
    }

    private static void causes() {
        WatchBill x = Check.ship("watch 2 48;rest 3 3 0;bill x 1:a 1;bill y 2:b 1;");
        x.hand(0, 1);
        x.hand(0, 2);
        x.order(0);
        x.bells(1);
        x.order(0);
        x.order(1);
        x.bells(1);
        x.sick(1, 1);
        x.bells(1);
        Check.due("breaches", x.about(4), 2);
        Check.due("the highest number", x.breach(0, 2), 1);
        Check.due("of the other", x.breach(1, 2), 2);
        x.bells(1);
        Check.due("breaches", x.about(4), 4);
        Check.due("the highest number", x.breach(2, 2), 1);
        Check.due("one bell worked", x.breach(3, 2), 2);
        x.bells(1);
        Check.due("all rested", x.about(4), 4);
    }

    private static void causeLeavesTheRest() {
        WatchBill x = Check.ship("rest 2 1 0;bill x 1:a 1;");
        x.hand(0, 1);
        x.order(0);
        x.bells(3);
        Check.due("breaches", x.about(4), 2);
        Check.due("in the last two bells", x.breach(0, 2), 0);
        Check.due("no longer in them", x.breach(1, 2), NONE);
        // A hand that was sick at all bells of its order wasn't at its station.
        WatchBill y = Check.ship("rest 2 1 0;bill x 1:a 1;");
        y.hand(0, 1);
        y.order(0);
        y.sick(0, 1);
        y.bells(3);
        Check.due("breaches", y.about(4), 1);
        Check.due("the order didn't break it", y.breach(0, 2), NONE);
    }

    private static void keptBreaches() {
        WatchBill x = Check.ship("rest 1 1 0;");
        for (int h = 0; h < 16; h++) {
            x.hand(0, 0);
        }
        x.bells(13);
        Check.due("breaches", x.about(4), 208);
        Check.due("the last kept: bell", x.breach(199, 0), 12);
        Check.due("the last kept: hand", x.breach(199, 1), 7);
        Check.due("not kept", x.breach(200, 0), NONE);
        Check.due("not kept", x.breach(207, 1), NONE);
        Check.due("counted all the same", x.handOf(15, 5), 13);
    }

    private static void restsBeginAnew() {
        String text = "rest 3 1 0;bill x 1:a 1;";
        WatchBill x = Check.ship(text);
        x.hand(0, 1);
        x.sick(0, 10);
        x.bells(10);
        x.order(0);
        x.bells(10);
        x.sick(0, 2);
        x.bells(2);
        Check.due("breaches", x.about(4), 8);
        Check.text(x, text);
        x.bells(3);
        Check.due("free bells of the earlier text don't count", x.about(4), 1);
        Check.due("its bell", x.breach(0, 0), 2);
        Check.due("orders of the earlier text don't count", x.breach(0, 2), NONE);
        WatchBill y = Check.ship("rest 3 0 2;");
        y.hand(0, 0);
        y.sick(0, 10);
        y.bells(10);
        Check.text(y, "rest 3 0 2;");
        y.sick(0, 1);
        y.bells(3);
        Check.due("a run of the earlier text doesn't count", y.about(4), 1);
    }

    private static void wrongInputs() {
        WatchBill x = Check.ship("rest 1 1 0;");
        x.hand(0, 0);
        x.bells(1);
        int[] others = {-1, 3, 100, Integer.MIN_VALUE, Integer.MAX_VALUE};
        for (int what : others) {
            Check.due("breach 0 " + what, x.breach(0, what), NONE);
        }
        int[] none = {-1, 1, 200, Integer.MIN_VALUE, Integer.MAX_VALUE};
        for (int i : none) {
            Check.due("breach " + i, x.breach(i, 0), NONE);
        }
        int[] about = {-1, 13, 100, Integer.MIN_VALUE, Integer.MAX_VALUE};
        for (int what : about) {
            Check.due("about " + what, x.about(what), NONE);
        }
    }
}
