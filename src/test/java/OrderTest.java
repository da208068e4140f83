/** Promises 11 to 13: orders, their stations and learners, and what could be filled. */
public final class OrderTest {
    private static final int NONE = WatchBill.NONE;

    public static void main(String[] args) {
        firstByStations();
        fewestFromBelow();
        fewestBeforeFirst();
        fewestOrderByOrder();
        handsThatCannot();
        watchOfTheNextBell();
        learners();
        learnersLearnedMost();
        learningASkill();
        learnersAreTaken();
        lasting();
        sixtyOrders();
        coulds();
        wrongInputs();
        Check.finish();
    }

    private static void firstByStations() {
        WatchBill x = Check.ship("bill x 5:b 1 a 2;");
        x.hand(0, 3);
        x.hand(0, 3);
        x.hand(0, 2);
        x.hand(0, 1);
        Check.due("order", x.order(0), 0);
        Check.stations(x, 0, 0, 1, 3);
        Check.due("bill", x.ordered(0, 0), 0);
        Check.due("left", x.ordered(0, 1), 5);
        Check.due("called", x.ordered(0, 2), 0);
        Check.learners(x, 0, NONE, NONE, NONE);
        Check.due("orders", x.about(3), 1);
        // Hand 0 alone has the skill of the last station, so the first takes hand 1.
        WatchBill y = Check.ship("bill x 5:b 1 a 1;");
        y.hand(0, 3);
        y.hand(0, 2);
        Check.due("order", y.order(0), 0);
        Check.stations(y, 0, 1, 0);
    }

    private static void fewestFromBelow() {
        WatchBill x = Check.ship("bill x 5:a 2;");
        x.hand(1, 1);
        x.hand(2, 1);
        x.hand(0, 1);
        x.hand(0, 0);
        Check.due("order", x.order(0), 0);
        Check.stations(x, 0, 0, 2);
        Check.due("called", x.ordered(0, 2), 1);
        WatchBill y = Check.ship("bill x 5:a 2;");
        y.hand(1, 1);
        y.hand(0, 1);
        y.hand(0, 1);
        Check.due("order", y.order(0), 0);
        Check.stations(y, 0, 1, 2);
        Check.due("called", y.ordered(0, 2), 0);
    }

    private static void fewestBeforeFirst() {
        // With hand 1 at the first station two of the watch serve, with hand 0 or 3 one alone.
        WatchBill x = Check.ship("bill x 5:a 1 b 1 c 1;");
        x.hand(1, 3);
        x.hand(0, 1);
        x.hand(0, 6);
        x.hand(1, 1);
        x.hand(1, 4);
        Check.due("order", x.order(0), 0);
        Check.stations(x, 0, 1, 0, 2);
        Check.due("called", x.ordered(0, 2), 1);
    }

    private static void fewestOrderByOrder() {
        // Each order is counted by itself: the first takes the watch's own hand.
        WatchBill x = Check.ship("bill x 5:a 1;");
        x.hand(1, 1);
        x.hand(2, 1);
        x.hand(0, 1);
        int[] hands = {2, 0, 1};
        for (int o = 0; o < hands.length; o++) {
            x.could(0);
            Check.due("order", x.order(0), o);
            Check.stations(x, o, hands[o]);
            Check.due("called", x.ordered(o, 2), o == 0 ? 0 : 1);
        }
    }

    private static void handsThatCannot() {
        WatchBill x = Check.ship("bill x 2:a 1;bill y 2:a 2;");
        x.hand(0, 1);
        x.hand(0, 1);
        x.hand(0, 62);
        x.sick(0, 1);
        Check.due("a hand is sick", x.order(1), NONE);
        Check.due("no order", x.about(3), 0);
        Check.due("order", x.order(0), 0);
        Check.stations(x, 0, 1);
        Check.due("all are taken", x.order(0), NONE);
        x.bells(1);
        Check.due("a hand is well", x.order(0), 1);
        Check.stations(x, 1, 0);
        x.bells(1);
        Check.due("order 0 ended, one hand for two", x.order(1), NONE);
        // A sick hand at a station is still at it as it gets well.
        x.sick(0, 9);
        x.sick(0, 0);
        Check.due("order", x.order(0), 2);
        Check.stations(x, 2, 1);
    }

    private static void watchOfTheNextBell() {
        WatchBill x = Check.ship("watch 0 1 1 1;learn 9;bill x 1:a 1;");
        x.hand(0, 1);
        x.hand(1, 1);
        x.hand(0, 0);
        x.hand(1, 0);
        Check.due("order", x.order(0), 0);
        Check.stations(x, 0, 0);
        Check.learners(x, 0, 2);
        x.bells(1);
        Check.due("order", x.order(0), 1);
        Check.stations(x, 1, 1);
        Check.learners(x, 1, 3);
        Check.due("called", x.ordered(1, 2), 0);
    }

    private static void learners() {
        WatchBill x = Check.ship("learn 3;bill x 2:a 2 b 1;");
        x.hand(0, 3);
        x.hand(0, 1);
        x.hand(0, 2);
        x.hand(1, 0);
        x.hand(0, 1);
        x.hand(0, 2);
        x.hand(0, 0);
        x.sick(6, 1);
        // Free: 5 has b alone and learns a; 4 has a and waits for the station of b; 6 is sick.
        Check.due("order", x.order(0), 0);
        Check.stations(x, 0, 0, 1, 2);
        Check.learners(x, 0, 5, NONE, 4);
        WatchBill y = Check.ship("bill x 2:a 1;");
        y.hand(0, 1);
        y.hand(0, 0);
        y.order(0);
        Check.learners(y, 0, NONE);
    }

    private static void learnersLearnedMost() {
        WatchBill x = Check.ship("learn 5;bill x 1:a 1;bill y 1:b 1;");
        x.hand(0, 3);
        x.hand(0, 0);
        x.hand(0, 0);
        x.sick(1, 1);
        x.order(0);
        Check.learners(x, 0, 2);
        x.bells(1);
        Check.due("learned a", x.handOf(2, 10), 1);
        x.order(0);
        Check.learners(x, 1, 2);
        x.bells(1);
        x.order(1);
        Check.learners(x, 2, 1);
        x.bells(1);
        Check.due("learned a", x.handOf(2, 10), 2);
        Check.due("learned b", x.handOf(1, 11), 1);
        Check.due("learned a", x.handOf(1, 10), 0);
    }

    private static void learningASkill() {
        WatchBill x = Check.ship("learn 2;bill x 2:c 1;");
        x.hand(0, 4);
        x.hand(0, 8);
        x.order(0);
        x.sick(1, 480);
        x.bells(1);
        Check.due("not yet learned", x.handOf(1, 12), 0);
        x.bells(1);
        Check.due("learned, sick or not", x.handOf(1, 12), 1);
        Check.due("skills", x.handOf(1, 1), 8);
        x.sick(1, 0);
        x.order(0);
        Check.learners(x, 1, 1);
        x.bells(2);
        Check.due("learned", x.handOf(1, 12), 2);
        Check.due("skills", x.handOf(1, 1), 12);
        x.order(0);
        Check.learners(x, 2, NONE);
        Check.due("has the skill: could", x.could(0), 1);
    }

    private static void learnersAreTaken() {
        WatchBill x = Check.ship("learn 2;bill x 3:a 1;bill y 3:b 1;");
        x.hand(0, 1);
        x.hand(0, 2);
        x.order(0);
        Check.learners(x, 0, 1);
        Check.due("a learner can't be at a station", x.could(1), 0);
        Check.due("a learner can't be at a station", x.order(1), NONE);
        x.bells(3);
        Check.due("now it can", x.order(1), 1);
        Check.learners(x, 1, 0);
        WatchBill y = Check.ship("learn 2;bill x 3:a 1;");
        y.hand(0, 1);
        y.hand(0, 1);
        y.hand(0, 0);
        y.order(0);
        y.order(0);
        Check.learners(y, 0, 2);
        Check.learners(y, 1, NONE);
    }

    private static void lasting() {
        WatchBill x = Check.ship("bill x 3:a 1;");
        x.hand(1, 1);
        x.bells(5);
        x.order(0);
        for (int left = 3; left > 0; left--) {
            Check.due("left", x.ordered(0, 1), left);
            Check.due("the hand is taken", x.could(0), 0);
            x.bells(1);
            Check.due("at its station", x.handOf(0, 7), 4);
        }
        Check.due("ended", x.ordered(0, 1), 0);
        Check.due("its hand is told", x.ordered(0, 100), 0);
        Check.due("the hand is free", x.could(0), 1);
        x.bells(1);
        Check.due("below", x.handOf(0, 7), 0);
        Check.due("ended", x.ordered(0, 1), 0);
        Check.due("bells WORKED", x.handOf(0, 6), 3);
    }

    private static void sixtyOrders() {
        WatchBill x = Check.ship("bill x 1:a 1;");
        x.hand(0, 1);
        for (int o = 0; o < 60; o++) {
            Check.due("order", x.order(0), o);
            x.bells(1);
        }
        Check.due("order 61", x.order(0), NONE);
        Check.due("could", x.could(0), 1);
        Check.due("orders", x.about(3), 60);
        Check.due("ordered 59", x.ordered(59, 100), 0);
        Check.due("ordered 60", x.ordered(60, 100), NONE);
        Check.text(x, "bill x 1:a 1;");
        Check.due("order anew", x.order(0), 0);
    }

    private static void coulds() {
        WatchBill x = Check.ship("bill x 1:a 3 b 1 c 2;bill y 1:f 8;");
        Check.due("no hands", x.could(0), 0);
        x.hand(1, 1);
        Check.due("one of a", x.could(0), 1);
        x.hand(2, 6);
        Check.due("and one of b, c", x.could(0), 2);
        x.hand(0, 2);
        Check.due("b and c", x.could(0), 3);
        x.hand(0, 2);
        Check.due("b is full", x.could(0), 3);
        x.hand(0, 63);
        Check.due("and one of all", x.could(0), 4);
        x.sick(4, 2);
        Check.due("it is sick", x.could(0), 3);
        Check.due("nobody for f", x.could(1), 0);
        for (int h = 5; h < 16; h++) {
            x.hand(0, 33);
        }
        Check.due("a is full", x.could(0), 5);
        Check.due("f is full", x.could(1), 8);
        Check.due("c is not", x.order(0), NONE);
        Check.due("eight of f", x.order(1), 0);
        Check.stations(x, 0, 5, 6, 7, 8, 9, 10, 11, 12);
    }

    private static void wrongInputs() {
        WatchBill x = Check.ship("learn 1;bill x 1:a 1;");
        x.hand(0, 1);
        x.hand(0, 0);
        x.order(0);
        int[] others = {-1, 4, 99, 101, 199, 201, Integer.MIN_VALUE, Integer.MAX_VALUE};
        for (int what : others) {
            Check.due("ordered 0 " + what, x.ordered(0, what), NONE);
        }
        int[] none = {-1, 1, Integer.MIN_VALUE, Integer.MAX_VALUE};
        for (int i : none) {
            Check.due("ordered " + i, x.ordered(i, 0), NONE);
            Check.due("ordered " + i + ", a station", x.ordered(i, 100), NONE);
            Check.due("order " + i, x.order(i), NONE);
            Check.due("could " + i, x.could(i), NONE);
        }
    }
}
