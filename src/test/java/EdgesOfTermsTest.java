/** What "What it is" and "Terms" say of boundaries, sentence by sentence; EdgesOfHourTest has the hour's. */
public final class EdgesOfTermsTest {
    private static final String TERMS = "Terms";

    public static void main(String[] args) {
        Check.sentence("What it is", "An object is used for at most 512 calls after it has been made",
                EdgesOfTermsTest::the512CallsAreAnswered);
        Check.sentence(TERMS, "/ is cut towards 0", EdgesOfTermsTest::quotientsAreCut);
        Check.sentence(TERMS, "Time is told in hours, from 0; a day has 24.", EdgesOfTermsTest::hoursAndDays);
        Check.sentence(TERMS, "The valley has places 0 to 29.", EdgesOfTermsTest::places0To29);
        theThings();
        Check.sentence(TERMS, "League. It has coins (50, at first; they can become less than 0).",
                EdgesOfTermsTest::coinsBelow0);
        Check.sentence(TERMS, "A table tells for each of 6 hours (the hour by the remainder of 6)",
                EdgesOfTermsTest::windByTheRemainder);
        Check.sentence(TERMS, "by how much all clouds drift more, -2 to 2 (0, at first)",
                EdgesOfTermsTest::windMinus2To2);
        Check.sentence(TERMS, "A method that throws an exception changes nothing.",
                EdgesOfTermsTest::refusedCallsChangeNothing);
        Check.sentence(TERMS, "If several exceptions apply, the one that is named first is thrown.",
                EdgesOfTermsTest::theFirstExceptionIsThrown);
        Check.end();
    }

    private static void theThings() {
        Check.sentence(TERMS, "There are at most 10, numbered from 0 in the order of their planting",
                EdgesOfTermsTest::tenVineyards);
        Check.sentence(TERMS, "has vines, 0 to 99", EdgesOfTermsTest::vines0To99);
        Check.sentence(TERMS, "it has lost vines in this day (0, at first), and has suits (0, at first)",
                EdgesOfTermsTest::vineyardPlantedLate);
        Check.sentence(TERMS, "Cannons. There are at most 6, numbered likewise", EdgesOfTermsTest::sixCannons);
        Check.sentence(TERMS, "has a range, 1 to 9, and powder, 0 to 60", EdgesOfTermsTest::rangeAndPowder);
        Check.sentence(TERMS, "Clouds. There are at most 20 in all, numbered likewise",
                EdgesOfTermsTest::twentyClouds);
        Check.sentence(TERMS, "drifts by -3 to 3 an hour, and has hail, 0 to 60", EdgesOfTermsTest::driftAndHail);
        Check.sentence(TERMS, "it is gone, for good, if it comes beyond the valley",
                EdgesOfTermsTest::goneBeyondTheValley);
    }

    private static void the512CallsAreAnswered() {
        HailLeague x = new HailLeague();
        for (int call = 1; call <= 511; call++) {
            x.pass(96);
        }
        Check.due("count(0) as the 512th call", 511 * 96, x.count(0));

        HailLeague y = new HailLeague();
        y.cannon(0, 1, 0);
        for (int call = 2; call <= 511; call++) {
            y.load(0, 60);
        }
        Check.due("count(2) as the 512th call", 50 - 510 * 12, y.count(2));

        HailLeague z = new HailLeague();
        z.plant(4, 9, true, true);
        for (int call = 2; call <= 511; call++) {
            z.pass(96);
        }
        // A premium a day.
        Check.due("count(2) as the 512th call, with premiums", 50 + 510 * 4, z.count(2));
    }

    private static void quotientsAreCut() {
        HailLeague x = new HailLeague();
        x.cannon(0, 1, 0);
        x.load(0, 4);
        Check.due("coins, 4 / 5 less", 50, x.count(2));
        x.load(0, 9);
        Check.due("coins, 9 / 5 less", 49, x.count(2));
        x.plant(0, 1, true, true);
        x.plant(0, 3, true, true);
        x.gather(0, 0, 60);
        x.pass(24);
        Check.due("coins, 1 / 2 and 3 / 2 less, two premiums more", 49 - 0 - 1 + 2, x.count(2));
    }

    private static void hoursAndDays() {
        HailLeague x = new HailLeague();
        atHour(x, 0, 0);
        x.pass(1);
        atHour(x, 1, 1);
        x.pass(22);
        atHour(x, 23, 23);
        x.pass(1);
        atHour(x, 24, 0);
        x.pass(1);
        atHour(x, 25, 1);
        x.pass(22);
        atHour(x, 47, 23);
        x.pass(1);
        atHour(x, 48, 0);
        x.pass(96);
        atHour(x, 144, 0);
    }

    private static void atHour(HailLeague x, int hour, int hourOfTheDay) {
        Check.due("count(0) in hour " + hour, hour, x.count(0));
        Check.due("count(1) in hour " + hour, hourOfTheDay, x.count(1));
    }

    private static void places0To29() {
        HailLeague x = new HailLeague();
        for (int place : new int[] {-1, 30}) {
            Check.illegalArgument("plant at " + place, x, () -> x.plant(place, 1, true, true));
            Check.illegalArgument("cannon at " + place, x, () -> x.cannon(place, 1, 1));
            Check.illegalArgument("gather at " + place, x, () -> x.gather(place, 1, 1));
        }
        int[] places = {0, 29};
        for (int i = 0; i < 2; i++) {
            Check.due("plant at " + places[i], i, x.plant(places[i], 8, true, true));
            Check.due("cannon at " + places[i], i, x.cannon(places[i], 1, 1));
            Check.due("gather at " + places[i], i, x.gather(places[i], 0, 60));
            Check.due("vineyard at " + places[i], places[i], x.vineyard(i, 0));
            Check.due("about at " + places[i], places[i], x.about(i, 0));
            Check.due("cloud at " + places[i], places[i], x.cloud(i, 0));
        }
        Check.due("vines that are lost at 0 and at 29", 16, x.pass(1));
        for (int i = 0; i < 2; i++) {
            Check.due("the cloud at " + places[i] + " is there", 0, x.cloud(i, 3));
            Check.due("the vineyard at " + places[i] + " is hit", 8, x.vineyard(i, 6));
            Check.due("the cannon at " + places[i] + " shoots", 1, x.about(i, 3));
        }
    }

    private static void tenVineyards() {
        HailLeague x = new HailLeague();
        for (int i = 0; i < 10; i++) {
            Check.due("planting " + i, i, x.plant(29 - i, 10 + i, true, false));
        }
        Check.illegalState("planting 10", x, () -> x.plant(5, 5, true, true));
        for (int i = 0; i < 10; i++) {
            Check.due("vineyard(" + i + ", 0)", 29 - i, x.vineyard(i, 0));
            Check.due("vineyard(" + i + ", 1)", 10 + i, x.vineyard(i, 1));
        }
        x.gather(20, 0, 1);
        Check.due("the last one loses vines as any other", 2, x.pass(1));
        Check.due("vineyard(9, 6)", 2, x.vineyard(9, 6));
    }

    private static void vines0To99() {
        HailLeague x = new HailLeague();
        Check.illegalArgument("plant of -1", x, () -> x.plant(3, -1, true, false));
        Check.illegalArgument("plant of 100", x, () -> x.plant(3, 100, true, false));
        x.plant(3, 0, true, false);
        x.plant(3, 99, true, false);
        x.plant(3, 1, true, false);
        Check.due("vines of the least", 0, x.vineyard(0, 1));
        Check.due("vines of the greatest", 99, x.vineyard(1, 1));
        x.pass(24);
        Check.due("99 do not become 100", 99, x.vineyard(1, 1));
        x.gather(3, 0, 60);
        x.pass(1);
        Check.due("0 do not become less", 0, x.vineyard(0, 1));
        Check.due("2 become 0, not less", 0, x.vineyard(2, 1));
    }

    private static void vineyardPlantedLate() {
        HailLeague x = new HailLeague();
        x.plant(3, 50, false, false);
        x.cannon(3, 1, 60);
        x.gather(3, 0, 60);
        x.pass(1);
        Check.due("vines that the first one lost", 8, x.vineyard(0, 4));
        Check.due("suits of the first one", 1, x.vineyard(0, 5));
        x.plant(3, 50, false, false);
        Check.due("vines that a new one lost in this day", 0, x.vineyard(1, 4));
        Check.due("suits of a new one", 0, x.vineyard(1, 5));
        Check.due("vines that a new one lost in all", 0, x.vineyard(1, 6));
    }

    private static void sixCannons() {
        HailLeague x = new HailLeague();
        for (int i = 0; i < 6; i++) {
            Check.due("cannon " + i, i, x.cannon(20 + i, i + 1, i));
        }
        Check.illegalState("cannon 6", x, () -> x.cannon(5, 5, 5));
        for (int i = 0; i < 6; i++) {
            Check.due("about(" + i + ", 0)", 20 + i, x.about(i, 0));
            Check.due("about(" + i + ", 1)", i + 1, x.about(i, 1));
            Check.due("about(" + i + ", 2)", i, x.about(i, 2));
        }
        x.gather(29, 0, 60);
        x.pass(1);
        Check.due("the last one shoots as any other", 1, x.about(5, 3));
    }

    private static void rangeAndPowder() {
        HailLeague x = new HailLeague();
        Check.illegalArgument("range 0", x, () -> x.cannon(3, 0, 5));
        Check.illegalArgument("range 10", x, () -> x.cannon(3, 10, 5));
        Check.illegalArgument("powder -1", x, () -> x.cannon(3, 5, -1));
        Check.illegalArgument("powder 61", x, () -> x.cannon(3, 5, 61));
        x.cannon(3, 1, 0);
        x.cannon(3, 9, 60);
        Check.due("the least range", 1, x.about(0, 1));
        Check.due("the least powder", 0, x.about(0, 2));
        Check.due("the greatest range", 9, x.about(1, 1));
        Check.due("the greatest powder", 60, x.about(1, 2));
        Check.due("60 powder do not become more", 60, x.load(1, 1));
        x.gather(3, 0, 60);
        x.pass(1);
        Check.due("0 powder do not become less", 0, x.about(0, 2));
    }

    private static void twentyClouds() {
        HailLeague x = new HailLeague();
        for (int i = 0; i < 20; i++) {
            Check.due("cloud " + i, i, x.gather(29 - i, 3, 40 + i));
        }
        Check.illegalState("cloud 20", x, () -> x.gather(5, 1, 5));
        for (int i = 0; i < 20; i++) {
            Check.due("cloud(" + i + ", 0)", 29 - i, x.cloud(i, 0));
            Check.due("cloud(" + i + ", 2)", 40 + i, x.cloud(i, 2));
        }
        x.pass(1);
        Check.due("the last one drifts as any other", 13, x.cloud(19, 0));
        Check.due("the last one drops hail as any other", 55, x.cloud(19, 2));
        x.pass(10);
        Check.due("clouds, when all are gone", 0, x.count(8));
        Check.illegalState("cloud 20, when all are gone", x, () -> x.gather(5, 1, 5));
        Check.due("the first one is still the first", 32, x.cloud(0, 0));
    }

    private static void driftAndHail() {
        HailLeague x = new HailLeague();
        Check.illegalArgument("drift -4", x, () -> x.gather(15, -4, 5));
        Check.illegalArgument("drift 4", x, () -> x.gather(15, 4, 5));
        Check.illegalArgument("hail -1", x, () -> x.gather(15, 1, -1));
        Check.illegalArgument("hail 61", x, () -> x.gather(15, 1, 61));
        x.gather(15, -3, 0);
        x.gather(15, 3, 60);
        Check.due("the least hail", 0, x.cloud(0, 2));
        Check.due("the greatest hail", 60, x.cloud(1, 2));
        x.pass(1);
        Check.due("place by the least drift", 12, x.cloud(0, 0));
        Check.due("place by the greatest drift", 18, x.cloud(1, 0));
        Check.due("0 hail do not become less", 0, x.cloud(0, 2));
    }

    private static void goneBeyondTheValley() {
        HailLeague x = new HailLeague();
        x.gather(1, -1, 60);
        x.gather(0, -1, 60);
        x.gather(28, 1, 60);
        x.gather(29, 1, 60);
        x.pass(1);
        int[] places = {0, -1, 29, 30};
        int[] gone = {0, 1, 0, 1};
        for (int i = 0; i < 4; i++) {
            Check.due("place of cloud " + i, places[i], x.cloud(i, 0));
            Check.due("cloud " + i + " is gone", gone[i], x.cloud(i, 3));
        }
        Check.due("clouds there", 2, x.count(8));
        // This wind would bring the cloud at -1 back to 0.
        x.setWind(1, 2);
        x.pass(1);
        Check.due("place of one that is gone", -1, x.cloud(1, 0));
        Check.due("it is gone for good", 1, x.cloud(1, 3));
        // And this one the cloud at 30 back to 29.
        x.setWind(2, -2);
        x.pass(1);
        Check.due("place of the other that is gone", 30, x.cloud(3, 0));
        Check.due("it is gone for good too", 1, x.cloud(3, 3));
    }

    private static void coinsBelow0() {
        HailLeague x = new HailLeague();
        Check.due("coins at first", 50, x.count(2));
        x.cannon(5, 1, 0);
        for (int i = 0; i < 25; i++) {
            x.move(0, 5);
        }
        Check.due("coins, all spent", 0, x.count(2));
        x.move(0, 5);
        Check.due("coins behind one more move", -2, x.count(2));
        x.load(0, 60);
        Check.due("coins behind a load", -14, x.count(2));
        x.plant(5, 99, true, true);
        x.gather(5, 0, 7);
        x.pass(24);
        // In both hours a shot takes 2 hail: 4 and none are dropped, so 4 coins are paid.
        Check.due("coins behind a day", -14 + 1 - (4 * 2 + 0) / 2, x.count(2));
    }

    private static void windByTheRemainder() {
        HailLeague x = new HailLeague();
        Check.outOfBounds("hour -1", x, () -> x.setWind(-1, 0));
        Check.outOfBounds("hour 6", x, () -> x.setWind(6, 0));
        x.setWind(0, 2);
        x.setWind(5, 1);
        x.gather(0, 0, 0);
        int[] places = {2, 2, 2, 2, 2, 3, 5, 5, 5, 5, 5, 6, 8};
        for (int hour = 0; hour < places.length; hour++) {
            x.pass(1);
            Check.due("place behind hour " + hour, places[hour], x.cloud(0, 0));
        }
    }

    private static void windMinus2To2() {
        HailLeague x = new HailLeague();
        Check.illegalArgument("wind -3", x, () -> x.setWind(0, -3));
        Check.illegalArgument("wind 3", x, () -> x.setWind(0, 3));
        for (int hour = 0; hour < 6; hour++) {
            Check.due("wind at first of hour " + hour, 0, x.setWind(hour, 0));
        }
        x.setWind(0, -2);
        x.setWind(1, 2);
        x.gather(10, 0, 0);
        x.gather(10, 1, 0);
        x.pass(1);
        Check.due("place by the least wind", 8, x.cloud(0, 0));
        Check.due("place of the other", 9, x.cloud(1, 0));
        x.pass(1);
        Check.due("place by the greatest wind", 10, x.cloud(0, 0));
        Check.due("place of the other then", 12, x.cloud(1, 0));
    }

    private static HailLeague full() {
        HailLeague x = new HailLeague();
        for (int i = 0; i < 10; i++) {
            x.plant(3 * i, 99 - i, i % 2 == 0, i % 3 == 0);
        }
        for (int i = 0; i < 6; i++) {
            x.cannon(5 * i, i + 1, 10 * i);
        }
        for (int i = 0; i < 20; i++) {
            x.gather(i + 5, i % 7 - 3, 60 - i);
        }
        x.setWind(0, 1);
        x.setWind(3, -2);
        x.pass(2);
        return x;
    }

    private static void refusedCallsChangeNothing() {
        HailLeague x = full();
        Check.illegalArgument("plant", x, () -> x.plant(30, 1, true, true));
        Check.illegalState("plant of an eleventh", x, () -> x.plant(29, 1, true, true));
        Check.outOfBounds("sign", x, () -> x.sign(10, true, true));
        Check.illegalArgument("cannon", x, () -> x.cannon(1, 10, 1));
        Check.illegalState("cannon, a seventh", x, () -> x.cannon(1, 1, 1));
        Check.outOfBounds("load", x, () -> x.load(6, 1));
        Check.illegalArgument("load of 61", x, () -> x.load(0, 61));
        Check.illegalArgument("gather", x, () -> x.gather(1, 4, 1));
        Check.illegalState("gather of a 21st", x, () -> x.gather(1, 1, 1));
        Check.outOfBounds("setWind", x, () -> x.setWind(6, 1));
        Check.illegalArgument("setWind of 3", x, () -> x.setWind(1, 3));
        Check.outOfBounds("vineyard", x, () -> x.vineyard(10, 0));
        Check.outOfBounds("about", x, () -> x.about(6, 0));
        Check.outOfBounds("cloud", x, () -> x.cloud(20, 0));
        Check.outOfBounds("count", x, () -> x.count(10));
        Check.illegalArgument("pass", x, () -> x.pass(97));
        Check.outOfBounds("hit", x, () -> x.hit(10));
        Check.illegalArgument("foresee", x, () -> x.foresee(97, 2));
        Check.outOfBounds("foresee of 9", x, () -> x.foresee(1, 9));
        Check.outOfBounds("advise", x, () -> x.advise(6, 1));
        Check.illegalArgument("advise for 37", x, () -> x.advise(0, 37));
        Check.outOfBounds("move", x, () -> x.move(6, 1));
        Check.illegalArgument("move to 30", x, () -> x.move(0, 30));
        // What no digest() tells would be seen in the hours that come.
        HailLeague twin = full();
        for (int day = 0; day < 3; day++) {
            Check.due("what passes on day " + day, twin.pass(24), x.pass(24));
            Check.due("digest() on day " + day, twin.digest(), x.digest());
        }
    }

    private static void theFirstExceptionIsThrown() {
        HailLeague x = full();
        Check.illegalArgument("plant at 30 of an eleventh", x, () -> x.plant(30, 1, true, true));
        Check.illegalArgument("plant of 100 of an eleventh", x, () -> x.plant(1, 100, true, true));
        Check.illegalArgument("a seventh cannon at -1", x, () -> x.cannon(-1, 1, 1));
        Check.illegalArgument("a seventh cannon of range 0", x, () -> x.cannon(1, 0, 1));
        Check.illegalArgument("a seventh cannon with powder 61", x, () -> x.cannon(1, 1, 61));
        Check.outOfBounds("load of 61 for a seventh cannon", x, () -> x.load(6, 61));
        Check.outOfBounds("load of 0 for cannon -1", x, () -> x.load(-1, 0));
        Check.illegalArgument("a 21st cloud at 30", x, () -> x.gather(30, 1, 1));
        Check.illegalArgument("a 21st cloud of drift -4", x, () -> x.gather(1, -4, 1));
        Check.illegalArgument("a 21st cloud of hail -1", x, () -> x.gather(1, 1, -1));
        Check.outOfBounds("setWind of 3 for hour 6", x, () -> x.setWind(6, 3));
        Check.outOfBounds("setWind of -3 for hour -1", x, () -> x.setWind(-1, -3));
        Check.illegalArgument("foresee of 9 for 97 hours", x, () -> x.foresee(97, 9));
        Check.illegalArgument("foresee of -1 for 0 hours", x, () -> x.foresee(0, -1));
        Check.outOfBounds("advise for 37 hours for a seventh cannon", x, () -> x.advise(6, 37));
        Check.outOfBounds("advise for 0 hours for cannon -1", x, () -> x.advise(-1, 0));
        Check.outOfBounds("move to 30 of a seventh cannon", x, () -> x.move(6, 30));
        Check.outOfBounds("move to -1 of cannon -1", x, () -> x.move(-1, -1));
    }
}
