/** What the document says of boundaries where it tells how an hour goes, sentence by sentence. */
public final class EdgesOfHourTest {
    private static final String TERMS = "Terms";

    public static void main(String[] args) {
        Check.sentence(TERMS, "1. Clouds that are not gone drift, by their own drift and the wind.",
                EdgesOfHourTest::driftAndWindTogether);
        shots();
        hail();
        theDaysEnd();
        Check.sentence(TERMS, "5. The hour is 1 greater.", EdgesOfHourTest::theHourIsGreater);
        Check.end();
    }

    private static void shots() {
        Check.sentence(TERMS, "one with powder shoots", EdgesOfHourTest::withAndWithoutPowder);
        Check.sentence(TERMS, "at the nearest cloud that is not gone, has hail", EdgesOfHourTest::goneOrWithoutHail);
        Check.sentence(TERMS, "and is not farther away than its range", EdgesOfHourTest::asFarAsTheRange);
        Check.sentence(TERMS, "(of several the one with the smallest number)", EdgesOfHourTest::asNearAsAnother);
        Check.sentence(TERMS, ", if there is one: it has a powder less", EdgesOfHourTest::noneToShootAt);
        Check.sentence(TERMS, "the cloud range + 1 - its distance less hail (at least 0)",
                EdgesOfHourTest::hailThatAShotTakes);
        Check.sentence(TERMS, "2. Cannons, by numbers", EdgesOfHourTest::cannonsOneAfterAnother);
        Check.sentence(TERMS, "Each vineyard that is no member, at most 2 away from the cannon, has a suit more.",
                EdgesOfHourTest::suitsAtMost2Away);
    }

    private static void hail() {
        Check.sentence(TERMS, "3. Clouds, by numbers, that are not gone: each drops", EdgesOfHourTest::goneCloudsDropNone);
        Check.sentence(TERMS, "drops 4 hail, as far as there is so much.", EdgesOfHourTest::lessThan4Hail);
        Check.sentence(TERMS, "Each vineyard at its place loses", EdgesOfHourTest::atItsPlaceAlone);
        Check.sentence(TERMS, "loses twice as many vines as hail was dropped, as far as there are some.",
                EdgesOfHourTest::fewerVinesThanAreLost);
        Check.sentence(TERMS, "Clouds, by numbers", EdgesOfHourTest::cloudsOneAfterAnother);
    }

    private static void theDaysEnd() {
        Check.sentence(TERMS, "4. In the last hour of a day (the remainder by 24 is 23):",
                EdgesOfHourTest::onlyInTheLastHour);
        Check.sentence(TERMS, "each insured vineyard pays 1 coin", EdgesOfHourTest::premiums);
        Check.sentence(TERMS, "is paid half (cut) of the vines that it lost in this day", EdgesOfHourTest::halfIsPaid);
        Check.sentence(TERMS, "each suit costs 1 coin", EdgesOfHourTest::suitsCost);
        Check.sentence(TERMS, "then no vineyard has lost any in this day, or has suits",
                EdgesOfHourTest::theNewDayStartsAt0);
        Check.sentence(TERMS, "and each vineyard with 1 to 98 vines has a vine more", EdgesOfHourTest::vinesGrow);
    }

    private static void driftAndWindTogether() {
        HailLeague x = new HailLeague();
        x.setWind(0, 2);
        x.setWind(1, -2);
        int[] places = {24, 25, 29, 0, 29, 2};
        int[] drifts = {3, 3, -2, -2, -1, -3};
        int[] placesThen = {29, 30, 29, 0, 30, 1};
        int[] gone = {0, 1, 0, 0, 1, 0};
        for (int i = 0; i < 6; i++) {
            x.gather(places[i], drifts[i], 0);
        }
        x.pass(1);
        for (int i = 0; i < 6; i++) {
            Check.due("place of cloud " + i, placesThen[i], x.cloud(i, 0));
            Check.due("cloud " + i + " is gone", gone[i], x.cloud(i, 3));
        }
        int[] placesAtLast = {30, 30, 25, -4, 30, -4};
        x.pass(1);
        for (int i = 0; i < 6; i++) {
            Check.due("place of cloud " + i + " an hour later", placesAtLast[i], x.cloud(i, 0));
        }
        HailLeague y = new HailLeague();
        y.setWind(0, -2);
        y.gather(5, -3, 0);
        y.gather(4, -3, 0);
        y.gather(0, 2, 0);
        y.gather(29, 2, 0);
        y.pass(1);
        int[] placesBehind = {0, -1, 0, 29};
        for (int i = 0; i < 4; i++) {
            Check.due("place of cloud " + i + " in the wind -2", placesBehind[i], y.cloud(i, 0));
            Check.due("cloud " + i + " is gone in the wind -2", i == 1 ? 1 : 0, y.cloud(i, 3));
        }
    }

    private static void withAndWithoutPowder() {
        HailLeague x = new HailLeague();
        x.cannon(10, 1, 0);
        x.cannon(20, 1, 1);
        x.gather(10, 0, 60);
        x.gather(20, 0, 60);
        x.pass(1);
        Check.due("shots without powder", 0, x.about(0, 3));
        Check.due("hail over the cannon without powder", 56, x.cloud(0, 2));
        Check.due("shots with a powder", 1, x.about(1, 3));
        Check.due("hail over the cannon with a powder", 54, x.cloud(1, 2));
        x.pass(1);
        Check.due("shots with a powder, an hour later", 1, x.about(1, 3));
        Check.due("its powder", 0, x.about(1, 2));
        Check.due("hail over it", 50, x.cloud(1, 2));
    }

    private static void goneOrWithoutHail() {
        HailLeague x = new HailLeague();
        x.cannon(29, 9, 9);
        x.gather(29, 1, 60);
        x.gather(27, 0, 0);
        x.gather(20, 0, 60);
        x.gather(26, 0, 1);
        x.pass(1);
        Check.due("hail of one that is gone", 60, x.cloud(0, 2));
        Check.due("hail of the far one", 56, x.cloud(2, 2));
        Check.due("hail of the nearer one", 0, x.cloud(3, 2));
        Check.due("shots", 1, x.about(0, 3));
        x.pass(1);
        Check.due("shots then", 2, x.about(0, 3));
        Check.due("hail of the far one then", 51, x.cloud(2, 2));
    }

    private static void asFarAsTheRange() {
        for (int range : new int[] {1, 2, 9}) {
            for (int side = -1; side <= 1; side += 2) {
                HailLeague x = new HailLeague();
                x.cannon(15, range, 9);
                x.gather(15 + side * (range + 1), 0, 60);
                x.pass(1);
                Check.due("shots " + (range + 1) + " far, range " + range, 0, x.about(0, 3));
                x.gather(15 + side * range, 0, 60);
                x.pass(1);
                Check.due("shots " + range + " far, range " + range, 1, x.about(0, 3));
                Check.due("hail " + range + " far, range " + range, 55, x.cloud(1, 2));
                Check.due("hail " + (range + 1) + " far, range " + range, 52, x.cloud(0, 2));
            }
        }
        HailLeague y = new HailLeague();
        y.cannon(0, 9, 9);
        y.cannon(29, 9, 9);
        y.gather(9, 0, 60);
        y.gather(20, 0, 60);
        y.pass(1);
        Check.due("hail 9 away from place 0", 55, y.cloud(0, 2));
        Check.due("hail 9 away from place 29", 55, y.cloud(1, 2));
    }

    private static void asNearAsAnother() {
        HailLeague x = new HailLeague();
        x.cannon(10, 5, 9);
        x.gather(15, 0, 60);
        x.gather(12, 0, 60);
        x.gather(8, 0, 60);
        x.gather(12, 0, 60);
        x.pass(1);
        int[] hail = {56, 52, 56, 56};
        for (int i = 0; i < 4; i++) {
            Check.due("hail of cloud " + i, hail[i], x.cloud(i, 2));
        }
        HailLeague y = new HailLeague();
        y.cannon(10, 5, 9);
        y.gather(8, 0, 60);
        y.gather(12, 0, 60);
        y.gather(10, 0, 60);
        y.gather(10, 0, 60);
        y.pass(1);
        int[] hailThen = {56, 56, 50, 56};
        for (int i = 0; i < 4; i++) {
            Check.due("hail of cloud " + i + " with two above the cannon", hailThen[i], y.cloud(i, 2));
        }
    }

    private static void noneToShootAt() {
        HailLeague x = new HailLeague();
        x.plant(10, 5, false, false);
        x.cannon(10, 5, 9);
        x.pass(1);
        nothingShot(x, "without clouds");
        x.gather(16, 0, 60);
        x.gather(10, 0, 0);
        x.pass(1);
        nothingShot(x, "with none in range that has hail");
        x.gather(15, 0, 60);
        x.pass(1);
        Check.due("powder when there is one", 8, x.about(0, 2));
        Check.due("shots when there is one", 1, x.about(0, 3));
        Check.due("suits when there is one", 1, x.vineyard(0, 5));
    }

    private static void nothingShot(HailLeague x, String when) {
        Check.due("powder " + when, 9, x.about(0, 2));
        Check.due("shots " + when, 0, x.about(0, 3));
        Check.due("suits " + when, 0, x.vineyard(0, 5));
    }

    private static void hailThatAShotTakes() {
        // A shot of range 9 takes 10 hail of a cloud over the cannon, and 1 of one that is 9 away.
        int[] distances = {0, 0, 0, 0, 0, 1, 8, 9, 9};
        int[] hailBefore = {60, 11, 10, 9, 1, 60, 60, 60, 1};
        int[] hailBehind = {46, 0, 0, 0, 0, 47, 54, 55, 0};
        int[] vinesLost = {8, 2, 0, 0, 0, 8, 8, 8, 0};
        for (int i = 0; i < distances.length; i++) {
            String of = " of " + hailBefore[i] + " hail, " + distances[i] + " away";
            HailLeague x = new HailLeague();
            x.plant(10 + distances[i], 50, true, false);
            x.cannon(10, 9, 1);
            x.gather(10 + distances[i], 0, hailBefore[i]);
            Check.due("vines lost by a cloud" + of, vinesLost[i], x.pass(1));
            Check.due("hail of a cloud" + of, hailBehind[i], x.cloud(0, 2));
            Check.due("powder for a cloud" + of, 0, x.about(0, 2));
        }
        HailLeague y = new HailLeague();
        y.cannon(10, 1, 9);
        y.cannon(20, 1, 9);
        y.gather(10, 0, 60);
        y.gather(21, 0, 60);
        y.pass(1);
        Check.due("hail over a cannon of range 1", 54, y.cloud(0, 2));
        Check.due("hail beside a cannon of range 1", 55, y.cloud(1, 2));
    }

    private static void cannonsOneAfterAnother() {
        HailLeague x = new HailLeague();
        for (int i = 0; i < 6; i++) {
            x.cannon(10, 1, 1);
        }
        x.gather(10, 0, 10);
        x.pass(1);
        for (int i = 0; i < 6; i++) {
            Check.due("shots of cannon " + i + " at 10 hail, 2 for each", i < 5 ? 1 : 0, x.about(i, 3));
        }
        x.gather(10, 0, 3);
        x.gather(11, 0, 6);
        x.load(4, 1);
        x.load(2, 1);
        x.pass(1);
        // Cannon 2 takes 2 of 3 hail overhead, cannon 4 the last, and cannon 5 one of the 6 beside.
        Check.due("hail overhead", 0, x.cloud(1, 2));
        Check.due("hail beside", 1, x.cloud(2, 2));
        int[] shots = {1, 1, 2, 1, 2, 1};
        for (int i = 0; i < 6; i++) {
            Check.due("shots of cannon " + i + " then", shots[i], x.about(i, 3));
        }
    }

    private static void suitsAtMost2Away() {
        HailLeague x = new HailLeague();
        int[] places = {7, 8, 9, 10, 11, 12, 13, 8, 12};
        int[] suits = {0, 2, 2, 2, 2, 2, 0, 0, 0};
        for (int i = 0; i < 9; i++) {
            x.plant(places[i], 5, i >= 7, true);
        }
        x.cannon(10, 9, 1);
        x.cannon(10, 9, 1);
        x.gather(19, 0, 60);
        x.pass(1);
        for (int i = 0; i < 9; i++) {
            Check.due("suits of vineyard " + i, suits[i], x.vineyard(i, 5));
        }
        Check.due("suits of all", 10, x.count(5));
        HailLeague y = new HailLeague();
        int[] ends = {0, 2, 3, 29, 27, 26};
        for (int i = 0; i < 6; i++) {
            y.plant(ends[i], 0, false, false);
        }
        y.cannon(0, 1, 1);
        y.cannon(29, 1, 1);
        y.gather(0, 0, 60);
        y.gather(29, 0, 60);
        y.pass(1);
        for (int i = 0; i < 6; i++) {
            Check.due("suits at " + ends[i], i % 3 == 2 ? 0 : 1, y.vineyard(i, 5));
        }
    }

    private static void goneCloudsDropNone() {
        HailLeague x = new HailLeague();
        x.plant(0, 50, true, false);
        x.plant(29, 50, true, false);
        x.gather(0, -1, 60);
        x.gather(29, 1, 60);
        Check.due("vines lost as they go", 0, x.pass(1));
        Check.due("vines lost behind it", 0, x.pass(96));
        Check.due("hail of the one", 60, x.cloud(0, 2));
        Check.due("hail of the other", 60, x.cloud(1, 2));
    }

    private static void lessThan4Hail() {
        int[] hail = {0, 1, 3, 4, 5, 8};
        int[] left = {0, 0, 0, 0, 1, 4};
        int[] lost = {0, 2, 6, 8, 8, 8};
        int[] lostInAll = {0, 2, 6, 8, 10, 16};
        for (int i = 0; i < hail.length; i++) {
            HailLeague x = new HailLeague();
            x.plant(5, 99, true, false);
            x.gather(5, 0, hail[i]);
            Check.due("vines lost by " + hail[i] + " hail", lost[i], x.pass(1));
            Check.due("what is left of " + hail[i] + " hail", left[i], x.cloud(0, 2));
            Check.due("vines lost by the rest", lostInAll[i] - lost[i], x.pass(3));
            Check.due("what is left then", 0, x.cloud(0, 2));
        }
    }

    private static void atItsPlaceAlone() {
        HailLeague x = new HailLeague();
        int[] places = {14, 15, 16, 15, 0, 29};
        int[] lost = {0, 8, 0, 8, 8, 8};
        for (int place : places) {
            x.plant(place, 50, true, false);
        }
        x.gather(15, 0, 4);
        x.gather(0, 0, 4);
        x.gather(29, 0, 4);
        Check.due("vines lost", 32, x.pass(1));
        for (int i = 0; i < 6; i++) {
            Check.due("vines lost by vineyard " + i + " at " + places[i], lost[i], x.vineyard(i, 4));
        }
    }

    private static void fewerVinesThanAreLost() {
        int[] vines = {0, 1, 7, 8, 9, 99};
        int[] lost = {0, 1, 7, 8, 8, 8};
        for (int i = 0; i < vines.length; i++) {
            HailLeague x = new HailLeague();
            x.plant(5, vines[i], true, false);
            x.gather(5, 0, 4);
            Check.due("vines lost of " + vines[i], lost[i], x.pass(1));
            Check.due("vines left of " + vines[i], vines[i] - lost[i], x.vineyard(0, 1));
            Check.due("vines lost in this day of " + vines[i], lost[i], x.vineyard(0, 4));
            Check.due("vines lost in all of " + vines[i], lost[i], x.vineyard(0, 6));
        }
    }

    private static void cloudsOneAfterAnother() {
        HailLeague x = new HailLeague();
        x.plant(5, 9, true, false);
        x.plant(5, 99, true, false);
        x.gather(5, 0, 60);
        x.gather(5, 0, 3);
        x.gather(5, 0, 60);
        Check.due("vines lost below three clouds", 9 + 8 + 6 + 8, x.pass(1));
        Check.due("vines of the first", 0, x.vineyard(0, 1));
        Check.due("vines of the second", 77, x.vineyard(1, 1));
    }

    private static HailLeague insuredWithALoss() {
        HailLeague x = new HailLeague();
        x.plant(5, 50, true, true);
        x.gather(5, 0, 4);
        return x;
    }

    private static void onlyInTheLastHour() {
        HailLeague x = insuredWithALoss();
        x.pass(23);
        Check.due("coins in hour 23", 50, x.count(2));
        Check.due("vines in hour 23", 42, x.count(3));
        Check.due("vines lost in this day in hour 23", 8, x.vineyard(0, 4));
        x.pass(1);
        Check.due("coins in hour 24", 47, x.count(2));
        Check.due("vines in hour 24", 43, x.count(3));
        Check.due("vines lost in this day in hour 24", 0, x.vineyard(0, 4));
        x.pass(1);
        Check.due("coins in hour 25", 47, x.count(2));
        Check.due("vines in hour 25", 43, x.count(3));
        x.pass(22);
        Check.due("coins in hour 47", 47, x.count(2));
        x.pass(1);
        Check.due("coins in hour 48", 48, x.count(2));
        Check.due("vines in hour 48", 44, x.count(3));
        HailLeague y = insuredWithALoss();
        for (int hour = 0; hour < 96; hour++) {
            y.pass(1);
            Check.due("vines behind hour " + hour, 42 + (hour + 1) / 24, y.count(3));
        }
    }

    private static void premiums() {
        HailLeague x = new HailLeague();
        x.pass(24);
        Check.due("coins without vineyards", 50, x.count(2));
        x.plant(5, 50, true, false);
        x.plant(5, 50, false, false);
        x.pass(24);
        Check.due("coins with none that is insured", 50, x.count(2));
        x.plant(5, 0, false, true);
        x.pass(24);
        Check.due("coins with an insured one without vines", 51, x.count(2));
        for (int i = 3; i < 10; i++) {
            x.plant(5, 50, true, true);
        }
        x.sign(0, true, true);
        x.sign(1, true, true);
        x.pass(24);
        Check.due("coins with ten", 61, x.count(2));
    }

    private static void halfIsPaid() {
        int[] vines = {0, 1, 2, 3, 50};
        int[] paid = {0, 0, 1, 1, 15};
        for (int i = 0; i < vines.length; i++) {
            HailLeague x = new HailLeague();
            x.plant(5, vines[i], true, true);
            x.plant(5, 99, true, false);
            x.gather(5, 0, 15);
            x.pass(24);
            Check.due("coins for " + vines[i] + " vines", 51 - paid[i], x.count(2));
            x.pass(24);
            Check.due("coins for " + vines[i] + " vines a day later", 52 - paid[i], x.count(2));
        }
        HailLeague y = new HailLeague();
        for (int i = 0; i < 3; i++) {
            y.plant(5, 3, true, true);
        }
        y.gather(5, 0, 60);
        y.pass(24);
        Check.due("coins: each half is cut by itself", 50 + 3 - 3, y.count(2));
    }

    private static void suitsCost() {
        HailLeague x = new HailLeague();
        x.plant(5, 0, false, false);
        x.plant(6, 0, false, false);
        x.cannon(5, 1, 60);
        x.pass(24);
        Check.due("coins without suits", 50, x.count(2));
        x.gather(5, 0, 2);
        x.pass(24);
        Check.due("coins for a suit of each", 48, x.count(2));
        x.sign(0, true, false);
        x.gather(5, 0, 60);
        x.pass(24);
        // With 2 of its hail taken by each shot, the cloud lasts 10 hours.
        Check.due("coins for ten suits of one", 38, x.count(2));
        x.gather(5, 0, 2);
        x.pass(1);
        x.sign(1, true, false);
        x.pass(23);
        Check.due("coins for a suit of one that is a member since", 37, x.count(2));
    }

    private static void theNewDayStartsAt0() {
        HailLeague x = new HailLeague();
        x.plant(5, 50, false, false);
        x.plant(5, 50, false, true);
        x.cannon(5, 1, 60);
        x.pass(23);
        x.gather(5, 0, 60);
        x.pass(1);
        for (int i = 0; i < 2; i++) {
            Check.due("vines lost in this day by vineyard " + i, 0, x.vineyard(i, 4));
            Check.due("suits of vineyard " + i, 0, x.vineyard(i, 5));
            Check.due("vines lost in all by vineyard " + i, 8, x.vineyard(i, 6));
        }
        Check.due("suits of all", 0, x.count(5));
        Check.due("vines lost in all", 16, x.count(4));
        x.pass(1);
        Check.due("vines lost in the new day", 8, x.vineyard(0, 4));
        Check.due("suits in the new day", 1, x.vineyard(0, 5));
        Check.due("vines lost in all then", 16, x.vineyard(0, 6));
    }

    private static void vinesGrow() {
        int[] vines = {0, 1, 2, 97, 98, 99};
        int[] vinesThen = {0, 2, 3, 98, 99, 99};
        HailLeague x = new HailLeague();
        for (int i = 0; i < 6; i++) {
            x.plant(i, vines[i], i % 2 == 0, i % 3 == 0);
        }
        x.pass(24);
        for (int i = 0; i < 6; i++) {
            Check.due("vines behind a day, from " + vines[i], vinesThen[i], x.vineyard(i, 1));
        }
        HailLeague y = new HailLeague();
        int[] hit = {7, 8, 9, 98, 99};
        int[] hitThen = {0, 0, 2, 91, 92};
        for (int n : hit) {
            y.plant(5, n, true, false);
        }
        y.pass(23);
        y.gather(5, 0, 4);
        y.pass(1);
        for (int i = 0; i < 5; i++) {
            Check.due("vines behind a day with hail in its last hour, from " + hit[i], hitThen[i], y.vineyard(i, 1));
        }
        y.pass(24);
        Check.due("vines of one that lost all, a day later", 0, y.vineyard(0, 1));
    }

    private static void theHourIsGreater() {
        HailLeague x = new HailLeague();
        for (int hour = 1; hour <= 50; hour++) {
            x.pass(1);
            Check.due("count(0)", hour, x.count(0));
        }
    }
}
