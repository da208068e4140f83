/** The document's Terms II, sentence by sentence: bells, galley, filling, orders, learners, rest. */
public final class TermsBellsTest {
    private static final int NONE = WatchBill.NONE;
    private static final String TERMS = "Terms II";

    public static void main(String[] args) {
        bellsOfADay();
        spansComeAgainAndAgain();
        sickFromTheNextBellOn();
        galleyIfItBeginsADay();
        galleyFewestTurnsLeastNumbers();
        galleyFirst8BellsUnlessSick();
        onWatch();
        fillingIfFewerThanLeast();
        fillingOfTheOthers();
        fillingFewestFills();
        fillingAsManyAsLackOrThereAre();
        fillingCountsOneFill();
        atStations();
        handWorks();
        ordersEndThenBreachesAreAsked();
        orderAheadOfTheNextBell();
        orderKindByKind();
        orderAnotherHandWithTheSkill();
        orderNotSick();
        orderAtNoStation();
        orderFewestFromBelow();
        orderFirstByStations();
        learnersIfLearnIsAbove0();
        learnersOfTheNextWatch();
        learnersAtNoStationAndNoLearners();
        learnersLearnedMostOften();
        learnersIfThereIsAny();
        orderLasts();
        learnedOnceMore();
        learnedAsOftenAsLearnSays();
        restBehindD();
        restFewerThanRFree();
        restFewerThanSTogether();
        causeHighestOrder();
        causeNoneWithoutOne();
        constantNone();
        Check.finish();
    }

    private static void bellsOfADay() {
        Check.says(TERMS, "BELLS 0, 1, 2, ..: 48 make a day.");
        WatchBill x = Check.ship("dull 1;", 1, 0);
        Check.due("the first bell", x.about(2), 0);
        for (int day = 0; day < 4; day++) {
            Check.due("turns ahead of day " + day, x.handOf(0, 3), day);
            x.bells(1);
            Check.due("turns at the first bell of day " + day, x.handOf(0, 3), day + 1);
            Check.due("behind it", x.bells(47), 48 * (day + 1));
            Check.due("turns at the last bell of day " + day, x.handOf(0, 3), day + 1);
        }
    }

    private static void spansComeAgainAndAgain() {
        Check.says(TERMS, "The SPANS' bells, one behind the other, come again and again from "
            + "bell 0: the WATCH of a bell.");
        WatchBill x = Check.ship("watch 1 1 1 1 2 2 0 3;", 0, 0, 1, 0, 2, 0);
        int[] round = {1, 1, 2, 2, 0, 0, 0};
        for (int bell = 0; bell < 50; bell++) {
            Check.due("the watch ahead of bell " + bell, x.watch(0), round[bell % 7]);
            Check.due("a round on", x.watch(7), round[bell % 7]);
            x.bells(1);
            for (int h = 0; h < 3; h++) {
                Check.due("hand " + h + " at bell " + bell, x.handOf(h, 7), round[bell % 7] == h ? 1 : 0);
            }
        }
        WatchBill one = Check.ship("watch 2 1;");
        Check.due("a round of one bell", one.watch(0), 2);
        Check.due("a round of one bell", one.watch(1000), 2);
        // The longest round: twelve times 48 bells.
        WatchBill most = Check.ship("watch 2 48" + " 0 48".repeat(10) + " 1 48;");
        int[][] due = {{0, 2}, {47, 2}, {48, 0}, {527, 0}, {528, 1}, {575, 1}, {576, 2}, {623, 2}, {624, 0}};
        for (int[] d : due) {
            Check.due("the longest round: watch " + d[0], most.watch(d[0]), d[1]);
        }
        most.bells(480);
        most.bells(95);
        Check.due("the round's last bell", most.watch(0), 1);
        Check.due("the round's first bell", most.watch(1), 2);
        WatchBill plain = new WatchBill();
        Check.due("without spans told", plain.watch(48), 0);
    }

    private static void sickFromTheNextBellOn() {
        Check.says(TERMS, "SICK: for so many bells from the next one on.");
        int[] some = {0, 1, 2, 47, 48, 480};
        for (int bells : some) {
            WatchBill x = Check.ship("", 0, 0);
            x.bells(1);
            x.sick(0, bells);
            Check.places(x, 1);
            Check.due("left", x.handOf(0, 2), bells);
            if (bells > 1) {
                x.bells(bells - 1);
                Check.due("one left", x.handOf(0, 2), 1);
            }
            if (bells > 0) {
                x.bells(1);
                Check.places(x, 0);
            }
            Check.due("SICK for " + bells + ": bells WORKED", x.handOf(0, 6), 1);
            Check.due("none left", x.handOf(0, 2), 0);
            x.bells(1);
            Check.places(x, 1);
            Check.due("none below 0", x.handOf(0, 2), 0);
        }
    }

    private static void galleyIfItBeginsADay() {
        Check.says(TERMS, "A BELL is worked so: first, if it begins a day, GALLEY:");
        WatchBill x = Check.ship("watch 2 48;dull 2;", 0, 0, 0, 0, 0, 0);
        x.sick(0, 1);
        x.sick(1, 2);
        x.sick(2, 3);
        x.bells(48);
        Check.allOf("nobody well as the day began: turns", x, 3, 0, 0, 0);
        Check.allOf("bells WORKED", x, 6, 0, 0, 0);
        x.bells(1);
        Check.places(x, 8, 8, 0);
        // First: the turn is there ahead of all else of the bell, also for one who is at a station.
        WatchBill y = Check.ship("dull 1;least 2;bill x 1:a 1;", 0, 1, 1, 0);
        y.order(0);
        y.bells(1);
        Check.places(y, 13, 2);
    }

    private static void galleyFewestTurnsLeastNumbers() {
        Check.says(TERMS, "of the hands that aren't SICK those dull with the fewest turns (of like "
            + "ones the least numbers) have one turn more,");
        WatchBill all = Check.ship("watch 2 48;dull 8;");
        for (int h = 0; h < 16; h++) {
            all.hand(h % 2, 0);
        }
        all.bells(1);
        for (int h = 0; h < 16; h++) {
            Check.due("the first day: turns of " + h, all.handOf(h, 3), h < 8 ? 1 : 0);
        }
        all.bells(48);
        for (int h = 0; h < 16; h++) {
            Check.due("the second day: turns of " + h, all.handOf(h, 3), 1);
        }
        WatchBill none = Check.ship("dull 0;", 0, 0);
        none.bells(49);
        Check.allOf("dull 0: turns", none, 3, 0);
        WatchBill few = Check.ship("dull 3;", 0, 0, 1, 0, 2, 0);
        few.sick(1, 1);
        few.bells(1);
        Check.allOf("fewer well than dull: turns", few, 3, 1, 0, 1);
        Check.text(few, "dull 2;");
        few.sick(0, 1);
        few.bells(49);
        Check.allOf("the fewest turns first", few, 3, 1, 2, 1);
        few.bells(48);
        Check.allOf("the fewest turns, not the least numbers", few, 3, 2, 2, 2);
        WatchBill nobody = Check.ship("dull 8;");
        Check.due("no hands at all", nobody.bells(49), 49);
    }

    private static void galleyFirst8BellsUnlessSick() {
        Check.says(TERMS, "and are in the GALLEY for the day's first 8 bells (unless SICK then).");
        WatchBill x = Check.ship("watch 2 48;dull 1;", 0, 0);
        for (int bell = 0; bell < 60; bell++) {
            if (bell == 3) {
                x.sick(0, 2);
            }
            x.bells(1);
            boolean inGalley = bell % 48 < 8 && bell != 3 && bell != 4;
            Check.due("at bell " + bell, x.handOf(0, 7), inGalley ? 8 : 0);
        }
        Check.allOf("the turn stays one a day", x, 3, 2);
        Check.allOf("bells WORKED", x, 6, 14);
        // Who was sick as the day began isn't in the galley as it gets well.
        WatchBill late = Check.ship("watch 2 48;dull 2;", 0, 0, 0, 0);
        late.sick(0, 1);
        late.bells(2);
        Check.places(late, 0, 8);
    }

    private static void onWatch() {
        Check.says(TERMS, "ON WATCH: hands of the bell's WATCH that aren't SICK.");
        WatchBill x = Check.ship("watch 0 1 1 1 2 1;", 0, 0, 1, 0, 2, 0, 1, 0);
        x.sick(3, 2);
        x.bells(1);
        Check.places(x, 1, 0, 0, 0);
        x.bells(1);
        Check.places(x, 0, 1, 0, 0);
        x.bells(1);
        Check.places(x, 0, 0, 1, 0);
        x.bells(2);
        Check.places(x, 0, 1, 0, 1);
    }

    private static void fillingIfFewerThanLeast() {
        Check.says(TERMS, "FILLING: if they are fewer than LEAST,");
        for (int least = 0; least <= 5; least++) {
            WatchBill x = Check.ship("least " + least + ";", 0, 0, 0, 0, 1, 0, 2, 0);
            x.bells(1);
            Check.places(x, 1, 1, least > 2 ? 2 : 0, least > 3 ? 2 : 0);
        }
        // A sick hand of the watch lacks.
        WatchBill sick = Check.ship("least 2;", 0, 0, 0, 0, 1, 0);
        sick.sick(1, 1);
        sick.bells(1);
        Check.places(sick, 1, 0, 2);
        sick.bells(1);
        Check.places(sick, 1, 1, 0);
        WatchBill without = Check.ship("", 1, 0);
        without.bells(1);
        Check.places(without, 0);
    }

    private static void fillingOfTheOthers() {
        Check.says(TERMS, "of the others that aren't SICK and at no STATION");
        WatchBill x = Check.ship("least 16;bill x 2:a 1;", 0, 0, 1, 1, 1, 0, 2, 0);
        x.order(0);
        x.sick(2, 1);
        x.bells(1);
        Check.places(x, 1, 4, 0, 2);
        x.bells(1);
        Check.places(x, 1, 4, 2, 2);
        x.bells(1);
        Check.places(x, 1, 2, 2, 2);
        Check.allOf("FILLS", x, 4, 0, 1, 2, 3);
        // One in the galley is at no station.
        WatchBill galley = Check.ship("least 1;dull 1;", 1, 0);
        galley.bells(1);
        Check.places(galley, 10);
    }

    private static void fillingFewestFills() {
        Check.says(TERMS, "those with the fewest FILLS (the least numbers first),");
        WatchBill x = Check.ship("least 1;", 1, 0, 2, 0, 1, 0);
        int[] fillers = {0, 1, 2, 0, 1};
        for (int filler : fillers) {
            x.bells(1);
            Check.places(x, filler == 0 ? 2 : 0, filler == 1 ? 2 : 0, filler == 2 ? 2 : 0);
        }
        // Hand 2 was sick and has one fill less than it would: it fills twice on end.
        x.sick(2, 2);
        x.bells(2);
        Check.allOf("FILLS", x, 4, 3, 3, 1);
        x.bells(2);
        Check.allOf("FILLS", x, 4, 3, 3, 3);
        x.bells(1);
        Check.places(x, 2, 0, 0);
    }

    private static void fillingAsManyAsLackOrThereAre() {
        Check.says(TERMS, "as many as lack, or as there are;");
        WatchBill x = Check.ship("least 3;", 1, 0, 0, 0, 1, 0, 1, 0);
        x.bells(1);
        Check.places(x, 2, 1, 2, 0);
        WatchBill few = Check.ship("least 16;", 0, 0, 1, 0, 2, 0);
        few.bells(1);
        Check.places(few, 1, 2, 2);
        WatchBill none = Check.ship("least 16;", 0, 0);
        none.bells(1);
        Check.places(none, 1);
        WatchBill all = Check.ship("watch 2 1;least 16;");
        for (int h = 0; h < 16; h++) {
            all.hand(h % 2, 0);
        }
        all.bells(1);
        for (int h = 0; h < 16; h++) {
            Check.due("all of 16 fill: hand " + h, all.handOf(h, 7), 2);
        }
    }

    private static void fillingCountsOneFill() {
        Check.says(TERMS, "each has one FILL more.");
        WatchBill x = Check.ship("watch 0 1 1 1;least 2;", 0, 0, 1, 0);
        for (int bell = 0; bell < 6; bell++) {
            x.bells(1);
            Check.allOf("FILLS", x, 4, (bell + 1) / 2, bell / 2 + 1);
        }
        Check.allOf("bells WORKED", x, 6, 6, 6);
    }

    private static void atStations() {
        Check.says(TERMS, "AT STATIONS: those of ORDERS that last (also ON WATCH; a hand that is "
            + "SICK by now isn't there).");
        WatchBill x = Check.ship("learn 1;bill x 3:a 2;", 0, 1, 1, 1, 0, 0);
        x.order(0);
        Check.learners(x, 0, 2, NONE);
        x.bells(1);
        Check.places(x, 5, 4, 1);
        x.sick(0, 1);
        x.sick(1, 2);
        x.bells(1);
        Check.places(x, 0, 0, 1);
        Check.stations(x, 0, 0, 1);
        x.bells(1);
        Check.places(x, 5, 0, 1);
        x.bells(1);
        Check.places(x, 1, 0, 1);
    }

    private static void handWorks() {
        Check.says(TERMS, "A hand WORKS if it is ON WATCH, FILLING, AT A STATION or in the GALLEY.");
        // One bell each: on watch; filling; at a station; in the galley; none of these.
        WatchBill watch = Check.ship("rest 1 1 0;", 0, 0, 1, 0);
        WatchBill filling = Check.ship("watch 2 1;least 1;rest 1 1 0;", 0, 0, 1, 0);
        WatchBill station = Check.ship("watch 2 1;bill x 1:a 1;rest 1 1 0;", 0, 1, 1, 0);
        WatchBill galley = Check.ship("watch 2 1;dull 1;rest 1 1 0;", 0, 0, 1, 0);
        WatchBill several = Check.ship("dull 1;bill x 1:a 1;rest 1 1 0;", 0, 1, 1, 0);
        station.order(0);
        several.order(0);
        WatchBill[] ships = {watch, filling, station, galley, several};
        int[] places = {1, 2, 4, 8, 13};
        for (int i = 0; i < ships.length; i++) {
            Check.due("one bell", ships[i].bells(1), 1);
            Check.places(ships[i], places[i], 0);
            Check.allOf("bells WORKED", ships[i], 6, 1, 0);
            Check.allOf("BREACHES", ships[i], 5, 1, 0);
        }
        // A learner whose watch is over doesn't work by learning.
        WatchBill learner = Check.ship("watch 0 1 2 9;learn 1;bill x 3:a 1;rest 1 1 0;", 0, 1, 0, 0);
        learner.order(0);
        learner.bells(3);
        Check.allOf("with a learner: bells WORKED", learner, 6, 3, 1);
    }

    private static void ordersEndThenBreachesAreAsked() {
        Check.says(TERMS, "Then ORDERS that had their last bell end; then BREACHES are asked.");
        WatchBill x = Check.ship("watch 2 1;rest 1 1 0;learn 1;bill x 1:a 1;", 0, 1, 2, 0);
        x.order(0);
        x.bells(1);
        Check.due("its last bell is behind it", x.ordered(0, 1), 0);
        Check.places(x, 4, 1);
        Check.due("both worked", x.about(4), 2);
        Check.breach(x, 0, 0, 0, 0);
        Check.breach(x, 1, 0, 1, NONE);
        Check.allOf("learned as it ended", x, 10, 0, 1);
        Check.due("the hands are free for the next bell", x.could(0), 1);
        x.bells(1);
        Check.places(x, 0, 1);
    }

    private static void orderAheadOfTheNextBell() {
        Check.says(TERMS, "AN ORDER of a bill, ahead of the next bell:");
        WatchBill x = Check.ship("bill x 2:a 1;", 1, 1);
        x.bells(3);
        Check.places(x, 0);
        Check.due("order", x.order(0), 0);
        Check.places(x, 0);
        Check.allOf("bells WORKED don't change by it", x, 6, 0);
        x.bells(1);
        Check.places(x, 4);
        // Behind the last bell an order can still be, only it won't be worked.
        WatchBill y = Check.ship("bill x 2:a 1;", 1, 1);
        for (int i = 0; i < 41; i++) {
            y.bells(480);
        }
        y.bells(320);
        Check.due("the last bell", y.about(2), 20000);
        Check.due("order", y.order(0), 0);
        Check.due("bells left", y.ordered(0, 1), 2);
    }

    private static void orderKindByKind() {
        Check.says(TERMS, "its STATIONS (KIND by KIND, as told) are filled");
        WatchBill x = Check.ship("bill x 1:c 1 a 2 b 1 a 1;", 0, 1, 0, 2, 0, 4, 0, 1, 0, 1);
        Check.due("order", x.order(0), 0);
        Check.stations(x, 0, 2, 0, 3, 1, 4);
        // The most stations, by the hands with the highest numbers.
        WatchBill most = Check.ship("bill x 1:f 8 e 4;");
        for (int h = 0; h < 16; h++) {
            most.hand(0, h < 4 ? 15 : h < 8 ? 16 : 32);
        }
        Check.due("order of twelve", most.order(0), 0);
        Check.stations(most, 0, 8, 9, 10, 11, 12, 13, 14, 15, 4, 5, 6, 7);
    }

    private static void orderAnotherHandWithTheSkill() {
        Check.says(TERMS, "each with another hand that has the skill,");
        WatchBill x = Check.ship("bill x 1:a 1 b 1;bill y 1:a 1;", 0, 3, 0, 60);
        Check.due("one hand isn't two", x.order(0), NONE);
        Check.due("nor could it be", x.could(0), 1);
        Check.due("order", x.order(1), 0);
        WatchBill y = Check.ship("bill x 1:a 1 b 1;", 0, 3, 0, 2);
        Check.due("order", y.order(0), 0);
        Check.stations(y, 0, 0, 1);
        WatchBill z = Check.ship("bill x 1:a 1;", 0, 62, 1, 0);
        Check.due("nobody has the skill", z.order(0), NONE);
        WatchBill none = Check.ship("bill x 1:a 1;");
        Check.due("no hands at all", none.order(0), NONE);
    }

    private static void orderNotSick() {
        Check.says(TERMS, "isn't SICK,");
        WatchBill x = Check.ship("bill x 1:a 1;", 0, 1);
        x.sick(0, 1);
        Check.due("sick for one bell", x.order(0), NONE);
        x.sick(0, 0);
        Check.due("sick for none", x.order(0), 0);
        x.sick(0, 1);
        x.bells(1);
        Check.due("well again", x.order(0), 1);
        WatchBill y = Check.ship("bill x 1:a 1;", 0, 1, 1, 1);
        y.sick(0, 480);
        Check.due("order", y.order(0), 0);
        Check.stations(y, 0, 1);
        Check.due("called from below", y.ordered(0, 2), 1);
    }

    private static void orderAtNoStation() {
        Check.says(TERMS, "and is at no STATION (as one or as a LEARNER) of an ORDER that lasts:");
        WatchBill x = Check.ship("learn 9;bill x 2:a 1;bill y 1:b 1;", 0, 3, 0, 2);
        Check.due("order", x.order(0), 0);
        Check.stations(x, 0, 0);
        Check.learners(x, 0, 1);
        for (int bell = 0; bell < 2; bell++) {
            Check.due("at a station, and a learner", x.order(1), NONE);
            Check.due("neither could", x.could(1), 0);
            x.bells(1);
        }
        Check.due("the order doesn't last", x.order(1), 1);
        Check.stations(x, 1, 0);
        // A sick hand is still at its station: no other order has it as it gets well.
        WatchBill sick = Check.ship("bill x 9:a 1;", 0, 1);
        sick.order(0);
        sick.sick(0, 1);
        sick.bells(1);
        Check.due("well, and at its station", sick.order(0), NONE);
    }

    private static void orderFewestFromBelow() {
        Check.says(TERMS, "of all ways those with the fewest hands that the next bell's WATCH "
            + "doesn't have;");
        WatchBill x = Check.ship("watch 0 1 1 1;bill x 1:a 2;", 1, 1, 0, 1, 2, 1, 0, 1);
        Check.due("order", x.order(0), 0);
        Check.stations(x, 0, 1, 3);
        Check.due("none from below", x.ordered(0, 2), 0);
        x.bells(1);
        Check.due("the other watch", x.order(0), 1);
        Check.stations(x, 1, 0, 1);
        Check.due("one from below", x.ordered(1, 2), 1);
        // Hand 0 would fill the first station, but then two would come from below.
        WatchBill y = Check.ship("bill x 1:a 1 b 1;", 0, 3, 0, 1, 1, 2, 1, 1);
        Check.due("order", y.order(0), 0);
        Check.stations(y, 0, 1, 0);
        Check.due("none from below", y.ordered(0, 2), 0);
        WatchBill all = Check.ship("watch 2 1;bill x 1:a 2;", 1, 1, 0, 1);
        Check.due("order", all.order(0), 0);
        Check.due("all from below", all.ordered(0, 2), 2);
        // Each order counts by itself: the first took the watch's own hand.
        WatchBill next = Check.ship("bill x 5:a 1;", 1, 1, 2, 1, 0, 1);
        int[] hands = {2, 0, 1};
        for (int o = 0; o < hands.length; o++) {
            Check.due("could", next.could(0), 1);
            Check.due("order", next.order(0), o);
            Check.stations(next, o, hands[o]);
            Check.due("from below", next.ordered(o, 2), o == 0 ? 0 : 1);
        }
    }

    private static void orderFirstByStations() {
        Check.says(TERMS, "of these the first by STATIONS (the lower hand first).");
        WatchBill x = Check.ship("bill x 1:b 1 a 1 b 1;", 0, 3, 0, 3, 0, 3, 0, 3);
        Check.due("order", x.order(0), 0);
        Check.stations(x, 0, 0, 1, 2);
        // The first station takes hand 1, for hand 0 alone can be at the second.
        WatchBill y = Check.ship("bill x 1:b 1 a 1;", 0, 3, 0, 2);
        Check.due("order", y.order(0), 0);
        Check.stations(y, 0, 1, 0);
        // A hand that a station further on needs is left, though the stations ahead are many.
        WatchBill left = Check.ship("bill x 1:b 2 a 1;", 0, 3, 0, 2, 0, 2);
        Check.due("order", left.order(0), 0);
        Check.stations(left, 0, 1, 2, 0);
        WatchBill between = Check.ship("bill y 1:a 1 b 1 a 1;", 0, 1, 0, 3, 0, 2);
        Check.due("order", between.order(0), 0);
        Check.stations(between, 0, 0, 2, 1);
        // One comes from below in any case: as the lower hand it comes first.
        WatchBill z = Check.ship("bill x 1:a 2;", 1, 1, 0, 1, 1, 1);
        Check.due("order", z.order(0), 0);
        Check.stations(z, 0, 0, 1);
    }

    private static void learnersIfLearnIsAbove0() {
        Check.says(TERMS, "LEARNERS, if learn is above 0:");
        WatchBill none = Check.ship("learn 0;bill x 1:a 1;", 0, 1, 0, 0);
        none.order(0);
        Check.learners(none, 0, NONE);
        none.bells(1);
        Check.allOf("LEARNED", none, 10, 0, 0);
        Check.allOf("skills", none, 1, 1, 0);
        WatchBill without = Check.ship("bill x 1:a 1;", 0, 1, 0, 0);
        without.order(0);
        Check.learners(without, 0, NONE);
        WatchBill one = Check.ship("learn 1;bill x 1:a 1;", 0, 1, 0, 0);
        one.order(0);
        Check.learners(one, 0, 1);
    }

    private static void learnersOfTheNextWatch() {
        Check.says(TERMS, "STATION by STATION, of the hands of the next bell's WATCH that aren't "
            + "SICK, haven't the skill,");
        WatchBill x = Check.ship("watch 0 1 1 1;learn 9;bill x 1:a 1 b 1;",
            2, 3, 2, 3, 1, 0, 0, 2, 0, 0, 0, 1);
        x.sick(4, 1);
        Check.due("order", x.order(0), 0);
        // Of the watch: 3 and 5 have a skill each and are at the stations; 4 is sick.
        Check.stations(x, 0, 5, 3);
        Check.learners(x, 0, NONE, NONE);
        WatchBill y = Check.ship("watch 0 1 1 1;learn 9;bill x 1:a 1 b 1;", 2, 3, 2, 3, 1, 0, 0, 4, 0, 0);
        y.sick(3, 1);
        y.order(0);
        Check.stations(y, 0, 0, 1);
        Check.learners(y, 0, 4, NONE);
        y.bells(1);
        y.order(0);
        Check.learners(y, 1, 2, NONE);
        // Hand 2 has a and learns b; station by station: hand 3 learns a first.
        WatchBill z = Check.ship("learn 9;bill x 1:a 1 b 1;", 0, 1, 0, 2, 0, 1, 0, 2);
        z.order(0);
        Check.stations(z, 0, 0, 1);
        Check.learners(z, 0, 3, 2);
    }

    private static void learnersAtNoStationAndNoLearners() {
        Check.says(TERMS, "and are at no STATION and no LEARNERS of an ORDER that lasts (this one, too),");
        // Hand 1 is at this order's second station: it can't learn beside the first.
        WatchBill x = Check.ship("learn 9;bill x 1:a 1 b 1;", 0, 1, 0, 2);
        x.order(0);
        Check.learners(x, 0, NONE, NONE);
        // One learner isn't beside two stations.
        WatchBill y = Check.ship("learn 9;bill x 1:a 2;", 0, 1, 0, 1, 0, 0);
        y.order(0);
        Check.learners(y, 0, 2, NONE);
        // Nor in two orders, nor are those at another order's stations.
        WatchBill z = Check.ship("learn 9;bill x 2:a 1;bill y 1:b 1;bill z 9:c 1;", 0, 1, 0, 2, 0, 4, 0, 0);
        z.sick(1, 1);
        z.sick(2, 1);
        z.order(0);
        Check.learners(z, 0, 3);
        z.bells(1);
        z.order(1);
        Check.learners(z, 1, 2);
        Check.due("a learner can't be at a station", z.order(2), NONE);
        z.bells(1);
        Check.due("order", z.order(2), 2);
        Check.learners(z, 2, 0);
    }

    private static void learnersLearnedMostOften() {
        Check.says(TERMS, "the one that has LEARNED that skill most often (the least number first),");
        WatchBill x = Check.ship("learn 9;bill x 1:a 1;bill y 1:b 1;", 0, 3, 0, 0, 0, 0, 0, 0);
        x.order(0);
        Check.learners(x, 0, 1);
        x.sick(1, 1);
        x.bells(1);
        x.sick(1, 1);
        x.order(0);
        Check.learners(x, 1, 2);
        x.bells(1);
        // Now 1 and 2 learned once each; of like ones the least number.
        x.order(0);
        Check.learners(x, 2, 1);
        x.sick(1, 1);
        x.bells(1);
        x.sick(1, 2);
        for (int o = 3; o < 5; o++) {
            x.order(0);
            Check.learners(x, o, 2);
            x.bells(1);
        }
        Check.allOf("LEARNED a", x, 10, 0, 2, 3, 0);
        x.order(0);
        Check.learners(x, 5, 2);
        x.bells(1);
        x.order(1);
        Check.learners(x, 6, 1);
    }

    private static void learnersIfThereIsAny() {
        Check.says(TERMS, "if there is any.");
        WatchBill x = Check.ship("learn 9;bill x 1:a 1 b 1;", 0, 3, 0, 3, 1, 0);
        Check.due("order", x.order(0), 0);
        Check.learners(x, 0, NONE, NONE);
        // Nobody for the first station, one for the second.
        WatchBill y = Check.ship("learn 9;bill x 1:a 1 b 1;", 0, 1, 0, 3, 0, 1);
        Check.due("order", y.order(0), 0);
        Check.stations(y, 0, 0, 1);
        Check.learners(y, 0, NONE, 2);
    }

    private static void orderLasts() {
        Check.says(TERMS, "It lasts the bill's bells, from the next one on.");
        int[] some = {1, 2, 48};
        for (int bells : some) {
            WatchBill x = Check.ship("bill x " + bells + ":a 1;", 1, 1);
            x.bells(5);
            x.order(0);
            Check.due("left", x.ordered(0, 1), bells);
            if (bells > 1) {
                x.bells(bells - 1);
            }
            Check.due("one left", x.ordered(0, 1), 1);
            Check.due("it lasts", x.order(0), NONE);
            x.bells(1);
            Check.places(x, 4);
            Check.due("none left", x.ordered(0, 1), 0);
            Check.allOf("bells WORKED", x, 6, bells);
            x.bells(1);
            Check.places(x, 0);
            Check.due("none below 0", x.ordered(0, 1), 0);
        }
    }

    private static void learnedOnceMore() {
        Check.says(TERMS, "As it ends each LEARNER (SICK or not) has LEARNED its skill once more;");
        WatchBill x = Check.ship("learn 9;bill x 3:a 1 f 1;", 0, 33, 0, 33, 0, 0, 0, 0);
        x.order(0);
        Check.learners(x, 0, 2, 3);
        x.sick(2, 9);
        x.bells(2);
        Check.allOf("not yet", x, 10, 0, 0, 0, 0);
        x.bells(1);
        Check.allOf("LEARNED a", x, 10, 0, 0, 1, 0);
        Check.allOf("LEARNED f", x, 15, 0, 0, 0, 1);
        x.bells(3);
        Check.allOf("once alone", x, 10, 0, 0, 1, 0);
    }

    private static void learnedAsOftenAsLearnSays() {
        Check.says(TERMS, "as often as learn says: it has the skill.");
        for (int learn = 1; learn <= 3; learn++) {
            WatchBill x = Check.ship("learn " + learn + ";bill x 1:f 1;bill y 1:f 2;", 0, 32, 0, 1);
            for (int times = 1; times <= learn; times++) {
                Check.due("not yet", x.order(1), NONE);
                Check.allOf("skills", x, 1, 32, 1);
                x.order(0);
                Check.learners(x, times - 1, 1);
                x.bells(1);
                Check.allOf("LEARNED", x, 15, 0, times);
            }
            Check.allOf("skills", x, 1, 32, 33);
            Check.due("it has the skill", x.order(1), learn);
            Check.stations(x, learn, 0, 1);
            x.bells(1);
            x.order(0);
            Check.learners(x, learn + 1, NONE);
            x.bells(1);
            Check.allOf("no more of it", x, 15, 0, learn);
        }
        // The most that can be told is more than there can be orders.
        WatchBill most = Check.ship("learn 100;bill x 1:a 1;", 0, 1, 0, 0);
        for (int o = 0; o < 60; o++) {
            most.order(0);
            most.bells(1);
        }
        Check.allOf("LEARNED", most, 10, 0, 60);
        Check.allOf("skills", most, 1, 1, 0);
    }

    private static void restBehindD() {
        Check.says(TERMS, "REST: behind a bell t with t + 1 not below D");
        int[] some = {1, 2, 48, 95, 96};
        for (int d : some) {
            WatchBill x = Check.ship("rest " + d + " 1 0;", 0, 0);
            if (d > 1) {
                x.bells(d - 1);
            }
            Check.due("D " + d + ": not below D", x.about(4), 0);
            x.bells(1);
            Check.due("D " + d + ": the first that is asked", x.about(4), 1);
            Check.breach(x, 0, d - 1, 0, NONE);
            x.bells(2);
            Check.due("D " + d + ": and each behind it", x.about(4), 3);
            Check.allOf("BREACHES", x, 5, 3);
        }
    }

    private static void restFewerThanRFree() {
        Check.says(TERMS, "a hand has a BREACH if of the last D bells fewer than R were FREE (not WORKED),");
        // Of four bells one is worked: R 3 is kept, R 4 isn't.
        WatchBill kept = Check.ship("watch 0 1 1 3;rest 4 3 0;", 0, 0);
        kept.bells(40);
        Check.due("R 3", kept.about(4), 0);
        WatchBill broken = Check.ship("watch 0 1 1 3;rest 4 4 0;", 0, 0, 2, 0);
        broken.bells(40);
        Check.due("R 4", broken.about(4), 37);
        Check.allOf("BREACHES", broken, 5, 37, 0);
        WatchBill nothing = Check.ship("rest 1 0 0;", 0, 0);
        nothing.bells(40);
        Check.due("R 0", nothing.about(4), 0);
        // Of the last D alone: a bell worked leaves them D bells later.
        int[] some = {1, 2, 95, 96};
        for (int d : some) {
            WatchBill x = Check.ship("watch 2 1;rest " + d + " " + d + " 0;bill x 1:a 1;", 0, 1);
            x.bells(100);
            x.order(0);
            x.bells(d);
            Check.due("D " + d + ": worked in the last D", x.about(4), d);
            x.bells(9);
            Check.due("D " + d + ": all free again", x.about(4), d);
        }
        // Sick bells are free ones.
        WatchBill sick = Check.ship("rest 2 1 0;", 0, 0);
        sick.bells(1);
        sick.sick(0, 1);
        sick.bells(2);
        Check.due("sick", sick.about(4), 0);
        sick.bells(1);
        Check.due("well", sick.about(4), 1);
    }

    private static void restFewerThanSTogether() {
        Check.says(TERMS, "or fewer than S of these one behind the other.");
        WatchBill kept = Check.ship("watch 0 1 1 3;rest 8 0 3;", 0, 0);
        kept.bells(40);
        Check.due("S 3", kept.about(4), 0);
        WatchBill broken = Check.ship("watch 0 1 1 3;rest 8 0 4;", 0, 0, 2, 0);
        broken.bells(40);
        Check.due("S 4", broken.about(4), 33);
        Check.allOf("BREACHES", broken, 5, 33, 0);
        // Of these alone: a run that began ahead of the last D bells counts from there.
        WatchBill run = Check.ship("rest 4 0 3;", 0, 0);
        run.sick(0, 4);
        run.bells(5);
        Check.due("three of the four are in these", run.about(4), 0);
        run.bells(1);
        Check.due("two of them are", run.about(4), 1);
        // All D bells together.
        int[] some = {1, 2, 95, 96};
        for (int d : some) {
            WatchBill x = Check.ship("rest " + d + " 0 " + d + ";", 0, 0);
            x.sick(0, d);
            x.bells(d);
            Check.due("S " + d + " of D " + d, x.about(4), 0);
            x.bells(1);
            Check.due("one worked", x.about(4), 1);
            x.sick(0, d + 1);
            x.bells(d - 1 > 0 ? d - 1 : 1);
            int first = d == 1 ? 1 : d;
            Check.due("until all are free", x.about(4), first);
            x.bells(1);
            Check.due("all are free", x.about(4), first);
        }
        // Fewer than R and fewer than S are one breach.
        WatchBill both = Check.ship("rest 1 1 1;", 0, 0);
        both.bells(1);
        Check.due("both", both.about(4), 1);
    }

    private static void causeHighestOrder() {
        Check.says(TERMS, "Its CAUSE: the ORDER with the highest number at whose STATION it WORKED in these;");
        WatchBill x = Check.ship("watch 2 1;rest 3 3 0;bill x 1:a 1;", 0, 1);
        for (int o = 0; o < 3; o++) {
            x.order(0);
            x.bells(1);
        }
        x.bells(3);
        Check.due("breaches", x.about(4), 3);
        for (int i = 0; i < 3; i++) {
            Check.breach(x, i, 2 + i, 0, 2);
        }
        // An order of others with a higher number isn't its cause.
        WatchBill y = Check.ship("rest 1 1 0;bill x 2:a 1;bill y 2:b 1;", 0, 1, 0, 2);
        y.order(1);
        y.order(0);
        y.bells(1);
        Check.breach(y, 0, 0, 0, 1);
        Check.breach(y, 1, 0, 1, 0);
        // In these: D bells behind its last one it isn't any more.
        WatchBill z = Check.ship("rest 96 1 0;bill x 1:a 1;", 0, 1);
        z.order(0);
        z.bells(97);
        Check.due("breaches", z.about(4), 2);
        Check.breach(z, 0, 95, 0, 0);
        Check.breach(z, 1, 96, 0, NONE);
    }

    private static void causeNoneWithoutOne() {
        Check.says(TERMS, "NONE without one.");
        WatchBill x = Check.ship("rest 1 1 0;learn 1;least 9;dull 8;bill x 9:a 1;", 0, 1, 0, 0, 1, 0);
        x.order(0);
        x.bells(1);
        Check.due("breaches", x.about(4), 3);
        Check.breach(x, 0, 0, 0, 0);
        // The learner, and the one that fills, worked at no station.
        Check.breach(x, 1, 0, 1, NONE);
        Check.breach(x, 2, 0, 2, NONE);
        // Who was sick while the order lasted didn't work at its station.
        WatchBill sick = Check.ship("rest 3 2 0;bill x 2:a 1;", 0, 1);
        sick.order(0);
        sick.sick(0, 2);
        sick.bells(4);
        Check.due("breaches", sick.about(4), 1);
        Check.breach(sick, 0, 3, 0, NONE);
    }

    private static void constantNone() {
        Check.says(TERMS, "The constants: `NONE = -1`: None.");
        Check.due("NONE", WatchBill.NONE, -1);
    }
}
