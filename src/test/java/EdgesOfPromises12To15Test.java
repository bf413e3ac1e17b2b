/** What promises 12 to 15 say of boundaries, sentence by sentence. */
public final class EdgesOfPromises12To15Test {
    private static final int[] FORESEEN = {2, 3, 4, 5, 8};

    public static void main(String[] args) {
        promise12();
        promise13();
        promise14();
        promise15();
        Check.end();
    }

    private static void promise12() {
        Check.sentence("Promise 12", "Throws `IllegalArgumentException` if hours is not 1 to 96",
                EdgesOfPromises12To15Test::passHoursIsNot1To96);
        Check.sentence("Promise 12", "Returns how many vines are lost in them.",
                EdgesOfPromises12To15Test::vinesLostInThem);
    }

    private static void promise13() {
        Check.sentence("Promise 13", "Throws `IndexOutOfBoundsException` if there is no such vineyard",
                EdgesOfPromises12To15Test::hitNoSuchVineyard);
        Check.sentence("Promise 13", "Returns behind how many hours from now on it loses vines for the first time",
                EdgesOfPromises12To15Test::forTheFirstTimeFromNowOn);
        Check.sentence("Promise 13", "it loses vines", EdgesOfPromises12To15Test::hitOfFewVines);
        Check.sentence("Promise 13", "if nothing is done", EdgesOfPromises12To15Test::hitIfNothingIsDone);
        Check.sentence("Promise 13", "at most 60; -1 if not by then", EdgesOfPromises12To15Test::hitNotByThen);
        Check.sentence("Promise 13", "(nothing is changed)", EdgesOfPromises12To15Test::hitChangesNothing);
    }

    private static void promise14() {
        Check.sentence("Promise 14", "Throws `IllegalArgumentException` if hours is not 1 to 96",
                EdgesOfPromises12To15Test::foreseeHoursIsNot1To96);
        Check.sentence("Promise 14", "Throws `IndexOutOfBoundsException` if what is none of these",
                EdgesOfPromises12To15Test::foreseeWhatIsNoneOfThese);
        Check.sentence("Promise 14", "Returns this, behind so many hours, if nothing is done",
                EdgesOfPromises12To15Test::behindSoManyHours);
        Check.sentence("Promise 14", "(nothing is changed)", EdgesOfPromises12To15Test::foreseeChangesNothing);
    }

    private static void promise15() {
        Check.sentence("Promise 15", "Throws `IndexOutOfBoundsException` if there is no such cannon",
                EdgesOfPromises12To15Test::adviseNoSuchCannon);
        Check.sentence("Promise 15", "Throws `IllegalArgumentException` if hours is not 1 to 36",
                EdgesOfPromises12To15Test::adviseHoursIsNot1To36);
        Check.sentence("Promise 15", "Looks for the place", EdgesOfPromises12To15Test::placesOfTheValley);
        Check.sentence("Promise 15", "so that the fewest vines are lost in so many hours",
                EdgesOfPromises12To15Test::fewestInSoManyHours);
        Check.sentence("Promise 15", "Returns the place, of several the least", EdgesOfPromises12To15Test::leastOfSeveral);
        Check.sentence("Promise 15", "-1 if by none fewer are lost than where it is",
                EdgesOfPromises12To15Test::byNoneFewer);
        Check.sentence("Promise 15", "(nothing is changed)", EdgesOfPromises12To15Test::adviseChangesNothing);
    }

    private static HailLeague busy() {
        HailLeague x = new HailLeague();
        x.plant(6, 80, false, true);
        x.plant(10, 60, true, true);
        x.plant(14, 40, false, false);
        x.cannon(7, 3, 12);
        x.cannon(20, 5, 6);
        x.gather(2, 1, 55);
        x.gather(16, -1, 40);
        x.gather(28, -2, 60);
        x.gather(25, 3, 20);
        x.setWind(2, 1);
        x.pass(20);
        x.gather(4, 0, 60);
        x.gather(12, 1, 60);
        x.gather(29, 0, 60);
        return x;
    }

    /** What no digest() tells would be seen in the hours that come. */
    private static void isAsEver(String behind, HailLeague x) {
        HailLeague twin = busy();
        Check.due("digest() behind " + behind, twin.digest(), x.digest());
        Check.due("pass(30) behind " + behind, twin.pass(30), x.pass(30));
        Check.due("digest() behind it", twin.digest(), x.digest());
    }

    private static void passHoursIsNot1To96() {
        HailLeague x = busy();
        int hour = x.count(0);
        for (int hours : new int[] {0, 97, -1, Integer.MIN_VALUE, Integer.MAX_VALUE}) {
            Check.illegalArgument("pass(" + hours + ")", x, () -> x.pass(hours));
        }
        x.pass(1);
        Check.due("the hour behind pass(1)", hour + 1, x.count(0));
        x.pass(96);
        Check.due("the hour behind pass(96)", hour + 97, x.count(0));
    }

    private static void vinesLostInThem() {
        HailLeague x = new HailLeague();
        Check.due("without vineyards", 0, x.pass(1));
        x.plant(5, 99, true, false);
        x.plant(6, 30, true, false);
        Check.due("without clouds", 0, x.pass(21));
        x.gather(5, 0, 20);
        x.gather(6, 0, 20);
        Check.due("in hour 22", 16, x.pass(1));
        // The day ends within them, and a vine grows.
        Check.due("in hours 23 and 24", 32, x.pass(2));
        // 15 vines of the second one were left behind hour 23, and 7 behind hour 24.
        Check.due("in hour 25, where the second one has only 7", 15, x.pass(1));
        Check.due("in hour 26, where it has none", 8, x.pass(1));
        Check.due("when there is no hail any more", 0, x.pass(96));
    }

    private static void hitNoSuchVineyard() {
        HailLeague x = new HailLeague();
        Check.outOfBounds("hit(0) of none", x, () -> x.hit(0));
        x.gather(5, 0, 60);
        for (int i = 0; i < 10; i++) {
            int next = i + 1;
            x.plant(5, 9, true, false);
            Check.due("hit(" + i + ")", 1, x.hit(i));
            Check.outOfBounds("hit(" + next + ") of " + next, x, () -> x.hit(next));
        }
        for (int i : new int[] {-1, 11, Integer.MIN_VALUE, Integer.MAX_VALUE}) {
            Check.outOfBounds("hit(" + i + ")", x, () -> x.hit(i));
        }
    }

    private static void forTheFirstTimeFromNowOn() {
        HailLeague x = new HailLeague();
        x.plant(5, 99, true, false);
        x.gather(5, 0, 8);
        x.gather(0, 1, 60);
        Check.due("now, and twice more", 1, x.hit(0));
        x.pass(1);
        Check.due("an hour later", 1, x.hit(0));
        x.pass(1);
        Check.due("lost before, and again behind 3 hours", 3, x.hit(0));
        x.pass(2);
        Check.due("in the next hour", 1, x.hit(0));
        x.pass(1);
        Check.due("never again", -1, x.hit(0));
        x.pass(18);
        x.gather(5, 0, 1);
        Check.due("in the last hour of a day", 1, x.hit(0));
        x.gather(3, 1, 60);
        x.pass(1);
        Check.due("in the first hour of a day", 1, x.hit(0));
    }

    private static void hitOfFewVines() {
        HailLeague x = new HailLeague();
        x.plant(5, 0, true, false);
        x.plant(5, 1, true, false);
        x.plant(4, 99, true, false);
        x.pass(23);
        x.gather(5, 0, 1);
        Check.due("without vines", -1, x.hit(0));
        Check.due("with a vine", 1, x.hit(1));
        Check.due("beside it", -1, x.hit(2));
        x.pass(1);
        x.gather(5, 0, 60);
        Check.due("when its vine is lost", -1, x.hit(1));
    }

    private static void hitIfNothingIsDone() {
        HailLeague x = new HailLeague();
        x.plant(9, 99, true, false);
        x.cannon(9, 1, 1);
        x.gather(8, 1, 2);
        Check.due("with a cannon that takes all its hail", -1, x.hit(0));
        x.gather(8, 1, 1);
        Check.due("with another cloud at the same place", 1, x.hit(0));
        x.load(0, 1);
        Check.due("with a powder more, but one shot an hour", 1, x.hit(0));
        HailLeague y = new HailLeague();
        y.plant(29, 99, true, false);
        y.gather(27, 1, 60);
        y.setWind(0, 2);
        Check.due("with a wind that blows it away", -1, y.hit(0));
        y.setWind(0, -2);
        y.setWind(1, 2);
        Check.due("with a wind that brings it", 2, y.hit(0));
    }

    private static void hitNotByThen() {
        // A cloud drops 4 of its 60 hail in each hour, so none can be behind more than 15.
        int[] hail = {60, 57, 56, 60};
        int[] hours = {15, 15, 15, 16};
        int[] due = {15, 15, -1, -1};
        for (int i = 0; i < 4; i++) {
            HailLeague x = new HailLeague();
            x.plant(hours[i], 99, true, false);
            x.gather(0, 1, hail[i]);
            Check.due("behind " + hours[i] + " hours by " + hail[i] + " hail", due[i], x.hit(0));
        }
        HailLeague y = new HailLeague();
        y.plant(29, 99, true, false);
        Check.due("without clouds", -1, y.hit(0));
        y.gather(28, 2, 60);
        Check.due("by a cloud that is gone before", -1, y.hit(0));
        y.gather(29, 0, 0);
        Check.due("by a cloud without hail", -1, y.hit(0));
    }

    private static void hitChangesNothing() {
        HailLeague x = busy();
        for (int i = 0; i < 3; i++) {
            x.hit(i);
        }
        isAsEver("hit", x);
    }

    private static void foreseeHoursIsNot1To96() {
        HailLeague x = busy();
        for (int hours : new int[] {0, 97, -1, Integer.MIN_VALUE, Integer.MAX_VALUE}) {
            Check.illegalArgument("foresee(" + hours + ", 2)", x, () -> x.foresee(hours, 2));
        }
        for (int hours : new int[] {1, 96}) {
            HailLeague twin = busy();
            twin.pass(hours);
            Check.due("foresee(" + hours + ", 3)", twin.count(3), x.foresee(hours, 3));
        }
    }

    private static void foreseeWhatIsNoneOfThese() {
        HailLeague x = busy();
        for (int what : new int[] {-1, 0, 1, 6, 7, 9, 10, Integer.MIN_VALUE, Integer.MAX_VALUE}) {
            Check.outOfBounds("foresee(1, " + what + ")", x, () -> x.foresee(1, what));
        }
        HailLeague twin = busy();
        twin.pass(1);
        for (int what : FORESEEN) {
            Check.due("foresee(1, " + what + ")", twin.count(what), x.foresee(1, what));
        }
    }

    private static void behindSoManyHours() {
        HailLeague x = new HailLeague();
        x.plant(5, 50, false, true);
        x.cannon(5, 1, 1);
        x.pass(22);
        x.gather(5, 0, 9);
        x.gather(28, 1, 9);
        // The shot takes 2 of 9 hail, then 4 and 3 are dropped; the day ends behind 2 and behind 26 hours.
        int[] hours = {1, 2, 25, 26};
        int[][] due = {
            {50, 43, 43, 44},
            {42, 37, 37, 38},
            {8, 14, 14, 14},
            {1, 0, 0, 0},
            {2, 1, 1, 1},
        };
        for (int i = 0; i < hours.length; i++) {
            for (int k = 0; k < FORESEEN.length; k++) {
                Check.due("foresee(" + hours[i] + ", " + FORESEEN[k] + ")", due[k][i],
                        x.foresee(hours[i], FORESEEN[k]));
            }
        }
        x.sign(0, true, false);
        Check.due("foresee(1, 5) of a member", 0, x.foresee(1, 5));
        Check.due("foresee(2, 2) of a member that is not insured", 50, x.foresee(2, 2));
        x.sign(0, false, false);
        Check.due("foresee(1, 5) of one that is no member again", 1, x.foresee(1, 5));
        Check.due("foresee(2, 2) of one that is no member again", 49, x.foresee(2, 2));
    }

    private static void foreseeChangesNothing() {
        HailLeague x = busy();
        for (int what : FORESEEN) {
            x.foresee(96, what);
        }
        isAsEver("foresee", x);
    }

    private static void adviseNoSuchCannon() {
        HailLeague x = new HailLeague();
        Check.outOfBounds("advise(0, 5) of none", x, () -> x.advise(0, 5));
        x.plant(5, 99, true, false);
        x.gather(5, 0, 4);
        for (int i = 0; i < 6; i++) {
            int next = i + 1;
            x.cannon(29, 1, 1);
            Check.due("advise(" + i + ", 5)", 5, x.advise(i, 5));
            Check.outOfBounds("advise(" + next + ", 5) of " + next, x, () -> x.advise(next, 5));
        }
        for (int i : new int[] {-1, 7, Integer.MIN_VALUE, Integer.MAX_VALUE}) {
            Check.outOfBounds("advise(" + i + ", 5)", x, () -> x.advise(i, 5));
        }
    }

    private static void adviseHoursIsNot1To36() {
        HailLeague x = new HailLeague();
        x.cannon(0, 1, 60);
        for (int hours : new int[] {0, 37, -1, 96, Integer.MIN_VALUE, Integer.MAX_VALUE}) {
            Check.illegalArgument("advise(0, " + hours + ")", x, () -> x.advise(0, hours));
        }
        x.plant(5, 99, true, false);
        x.gather(5, 0, 4);
        Check.due("advise(0, 1)", 5, x.advise(0, 1));
        Check.due("advise(0, 36)", 5, x.advise(0, 36));
    }

    private static void placesOfTheValley() {
        for (int end : new int[] {0, 29}) {
            HailLeague x = new HailLeague();
            x.plant(end, 99, true, false);
            x.cannon(29 - end, 1, 1);
            x.gather(end, 0, 5);
            Check.due("the place " + end, end, x.advise(0, 1));
        }
        // Only beyond the valley would a cannon spare its powder for the second cloud.
        HailLeague y = new HailLeague();
        y.plant(29, 99, true, false);
        y.cannon(0, 1, 1);
        y.gather(28, 0, 60);
        y.gather(27, 1, 8);
        Check.due("none above 29", -1, y.advise(0, 2));
        HailLeague z = new HailLeague();
        z.plant(0, 99, true, false);
        z.cannon(29, 1, 1);
        z.gather(1, 0, 60);
        z.gather(2, -1, 8);
        Check.due("none below 0", -1, z.advise(0, 2));
    }

    private static void fewestInSoManyHours() {
        HailLeague x = new HailLeague();
        x.plant(15, 99, true, false);
        x.cannon(0, 1, 60);
        x.gather(11, 1, 18);
        // It comes to 15 in the 4th hour with 6 hail; from 13 or 14 four are taken until then.
        Check.due("an hour too few", -1, x.advise(0, 3));
        Check.due("just so many hours", 13, x.advise(0, 4));
        Check.due("the most hours", 13, x.advise(0, 36));

        HailLeague y = new HailLeague();
        y.plant(5, 99, true, false);
        y.plant(20, 3, true, false);
        y.cannon(29, 1, 60);
        y.pass(23);
        y.gather(5, 0, 4);
        y.gather(18, 1, 8);
        // At 5 four vines are saved before the day ends; at 19 two in the next day.
        Check.due("over the end of a day", 5, y.advise(0, 2));
        y.pass(1);
        Check.due("behind the end of the day, when 2 hail are enough for its 4 vines", -1, y.advise(0, 1));
    }

    private static HailLeague cannonAt(int place) {
        HailLeague x = new HailLeague();
        x.plant(15, 99, true, false);
        x.cannon(place, 9, 60);
        x.gather(15, 0, 3);
        return x;
    }

    private static void leastOfSeveral() {
        // From 8 to 22 all 3 hail are taken, from 7 and 23 only 2.
        for (int place : new int[] {0, 5, 6, 7, 23, 24, 29}) {
            Check.due("from " + place, 8, cannonAt(place).advise(0, 1));
        }
    }

    private static void byNoneFewer() {
        for (int place : new int[] {8, 9, 15, 22}) {
            Check.due("from " + place + ", where as few are lost", -1, cannonAt(place).advise(0, 1));
        }
        HailLeague x = new HailLeague();
        x.cannon(0, 9, 0);
        Check.due("without vineyards and clouds", -1, x.advise(0, 36));
        x.plant(15, 99, true, false);
        Check.due("without clouds", -1, x.advise(0, 36));
        x.gather(15, 0, 8);
        Check.due("without powder", -1, x.advise(0, 36));
        x.load(0, 1);
        Check.due("with powder", 13, x.advise(0, 36));
        HailLeague y = new HailLeague();
        y.plant(15, 0, true, false);
        y.cannon(0, 9, 60);
        y.gather(15, 0, 60);
        Check.due("without vines", -1, y.advise(0, 36));
        y.plant(15, 8, true, false);
        Check.due("when all vines are lost anyway", -1, y.advise(0, 36));
    }

    private static void adviseChangesNothing() {
        HailLeague x = busy();
        for (int i = 0; i < 2; i++) {
            x.advise(i, 36);
        }
        isAsEver("advise", x);
    }
}
