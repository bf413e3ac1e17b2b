/** Promises 13 to 15: hit, foresee, advise. */
public final class ForesightTest {
    private static final int[] FORESEEN = {2, 3, 4, 5, 8};

    public static void main(String[] args) {
        hit();
        hitAsLongAsThereIsHail();
        hitOfEmptyVineyard();
        foresee();
        foreseeWrong();
        advise();
        adviseTies();
        adviseInTheValley();
        adviseByHours();
        adviseWrong();
        foresightChangesNothing();
        Check.end();
    }

    private static void hit() {
        HailLeague x = new HailLeague();
        Check.outOfBounds("13: hit(0) of none", x, () -> x.hit(0));
        x.plant(5, 50, true, false);
        x.plant(8, 50, true, false);
        x.plant(9, 50, true, false);
        x.plant(20, 50, true, false);
        for (int i : new int[] {-1, 4, 10, Integer.MIN_VALUE, Integer.MAX_VALUE}) {
            Check.outOfBounds("13: hit(" + i + ")", x, () -> x.hit(i));
        }
        Check.due("13: hit(0) without clouds", -1, x.hit(0));
        x.gather(4, 1, 60);
        Check.due("13: hit(0)", 1, x.hit(0));
        Check.due("13: hit(1)", 4, x.hit(1));
        Check.due("13: hit(2)", 5, x.hit(2));
        Check.due("13: hit(3): no hail is left by then", -1, x.hit(3));
        x.pass(1);
        Check.due("13: hit(0) behind it", -1, x.hit(0));
        Check.due("13: hit(1) an hour later", 3, x.hit(1));
        x.cannon(8, 9, 60);
        Check.due("13: hit(2) with a cannon", 4, x.hit(2));
        x.cannon(8, 9, 60);
        Check.due("13: hit(1) with two cannons", -1, x.hit(1));
        Check.due("13: hit(2) with two cannons", -1, x.hit(2));
    }

    private static void hitAsLongAsThereIsHail() {
        // Of 60 hail 4 are dropped in an hour, so the 60 hours of hit() are never short.
        for (int steps = 1; steps <= 16; steps++) {
            HailLeague x = new HailLeague();
            x.plant(steps, 50, true, false);
            x.gather(0, 1, 60);
            Check.due("13: hit of a vineyard " + steps + " away", steps <= 15 ? steps : -1, x.hit(0));
        }
    }

    private static void hitOfEmptyVineyard() {
        HailLeague x = new HailLeague();
        x.plant(5, 0, true, false);
        x.plant(5, 1, true, false);
        x.gather(5, 0, 60);
        Check.due("13: hit of one without vines", -1, x.hit(0));
        Check.due("13: hit of one with a vine", 1, x.hit(1));
        x.pass(1);
        Check.due("13: hit of one that lost its vine", -1, x.hit(1));
    }

    private static HailLeague busy() {
        HailLeague x = new HailLeague();
        x.plant(6, 80, false, true);
        x.plant(10, 60, true, true);
        x.plant(14, 40, false, false);
        x.plant(22, 98, true, true);
        x.cannon(7, 3, 12);
        x.cannon(20, 5, 6);
        x.gather(2, 1, 55);
        x.gather(16, -1, 40);
        x.gather(28, -2, 60);
        x.gather(22, 0, 30);
        x.gather(25, 3, 20);
        x.setWind(2, 1);
        x.setWind(5, -2);
        x.pass(1);
        return x;
    }

    private static void foresee() {
        HailLeague x = busy();
        for (int hours = 1; hours <= 96; hours++) {
            HailLeague twin = busy();
            twin.pass(hours);
            for (int what : FORESEEN) {
                Check.due("14: foresee(" + hours + ", " + what + ")", twin.count(what), x.foresee(hours, what));
            }
        }
        HailLeague y = new HailLeague();
        y.plant(5, 50, false, true);
        y.cannon(5, 1, 1);
        y.gather(5, 0, 9);
        y.gather(29, 2, 9);
        Check.due("14: foresee(1, 3)", 42, y.foresee(1, 3));
        Check.due("14: foresee(2, 4)", 14, y.foresee(2, 4));
        Check.due("14: foresee(23, 5)", 1, y.foresee(23, 5));
        Check.due("14: foresee(24, 5)", 0, y.foresee(24, 5));
        Check.due("14: foresee(23, 2)", 50, y.foresee(23, 2));
        Check.due("14: foresee(24, 2)", 43, y.foresee(24, 2));
        Check.due("14: foresee(1, 8)", 1, y.foresee(1, 8));
        Check.due("14: count(8) now", 2, y.count(8));
    }

    private static void foreseeWrong() {
        HailLeague x = busy();
        for (int hours : new int[] {0, -1, 97, Integer.MIN_VALUE, Integer.MAX_VALUE}) {
            Check.illegalArgument("14: foresee(" + hours + ", 2)", x, () -> x.foresee(hours, 2));
            Check.illegalArgument("14: foresee(" + hours + ", 0)", x, () -> x.foresee(hours, 0));
        }
        for (int what : new int[] {0, 1, 6, 7, 9, 10, -1, Integer.MIN_VALUE, Integer.MAX_VALUE}) {
            Check.outOfBounds("14: foresee(5, " + what + ")", x, () -> x.foresee(5, what));
        }
    }

    private static void advise() {
        HailLeague x = new HailLeague();
        x.plant(15, 99, true, false);
        x.cannon(0, 1, 1);
        x.gather(15, 0, 4);
        // At 14 and 16 one hail of 4 is taken, at 15 two.
        Check.due("15: advise(0, 1)", 15, x.advise(0, 1));
        x.move(0, 14);
        Check.due("15: advise(0, 1) from 14", 15, x.advise(0, 1));
        x.move(0, 15);
        Check.due("15: advise(0, 1) from the best", -1, x.advise(0, 1));
        HailLeague y = new HailLeague();
        y.cannon(0, 9, 60);
        y.gather(15, 0, 60);
        Check.due("15: advise(0, 36) without vines", -1, y.advise(0, 36));
    }

    private static void adviseTies() {
        HailLeague x = new HailLeague();
        x.plant(0, 99, true, false);
        x.plant(15, 99, true, false);
        x.cannon(25, 4, 60);
        x.gather(15, 0, 3);
        // From 13 on, 3 hail are all taken: no place is better than that.
        Check.due("15: the least of several places", 13, x.advise(0, 1));
        x.move(0, 17);
        Check.due("15: a lesser place that is only as good", -1, x.advise(0, 1));
        x.gather(0, 0, 5);
        x.move(0, 29);
        Check.due("15: the place 0", 0, x.advise(0, 1));
        HailLeague y = new HailLeague();
        y.plant(29, 99, true, false);
        y.cannon(0, 1, 60);
        y.gather(29, 0, 5);
        Check.due("15: the place 29", 29, y.advise(0, 1));
    }

    /** Only beyond the valley would a cannon not waste its powder on the first cloud. */
    private static void adviseInTheValley() {
        HailLeague x = new HailLeague();
        x.plant(29, 99, true, false);
        x.cannon(0, 1, 1);
        x.gather(28, 0, 60);
        x.gather(27, 1, 8);
        Check.due("15: no place above 29", -1, x.advise(0, 2));
        HailLeague y = new HailLeague();
        y.plant(0, 99, true, false);
        y.cannon(29, 1, 1);
        y.gather(1, 0, 60);
        y.gather(2, -1, 8);
        Check.due("15: no place below 0", -1, y.advise(0, 2));
        y.plant(15, 6, true, false);
        y.gather(15, 0, 4);
        // At 15 as much is saved as would be at -1.
        Check.due("15: nor is one counted as better", 15, y.advise(0, 2));
    }

    private static void adviseByHours() {
        HailLeague x = new HailLeague();
        x.plant(2, 99, true, false);
        x.plant(20, 99, true, false);
        x.cannon(10, 1, 60);
        x.gather(2, 0, 4);
        x.gather(20, 0, 60);
        // In the one hour only the small cloud can be robbed of its drop.
        Check.due("15: advise(0, 1)", 2, x.advise(0, 1));
        Check.due("15: advise(0, 15)", 20, x.advise(0, 15));
        Check.due("15: advise(0, 36)", 20, x.advise(0, 36));
    }

    private static void adviseWrong() {
        HailLeague x = new HailLeague();
        Check.outOfBounds("15: advise(0, 5) of none", x, () -> x.advise(0, 5));
        x.cannon(3, 3, 3);
        for (int i : new int[] {-1, 1, 6, Integer.MIN_VALUE, Integer.MAX_VALUE}) {
            Check.outOfBounds("15: advise(" + i + ", 5)", x, () -> x.advise(i, 5));
            Check.outOfBounds("15: advise(" + i + ", 0)", x, () -> x.advise(i, 0));
        }
        for (int hours : new int[] {0, -1, 37, 96, Integer.MIN_VALUE, Integer.MAX_VALUE}) {
            Check.illegalArgument("15: advise(0, " + hours + ")", x, () -> x.advise(0, hours));
        }
        Check.due("15: advise(0, 36)", -1, x.advise(0, 36));
    }

    private static void foresightChangesNothing() {
        HailLeague x = busy();
        long before = x.digest();
        for (int i = 0; i < 4; i++) {
            x.hit(i);
            Check.due("13: digest() behind hit(" + i + ")", before, x.digest());
        }
        for (int what : FORESEEN) {
            x.foresee(50, what);
            Check.due("14: digest() behind foresee(50, " + what + ")", before, x.digest());
        }
        for (int i = 0; i < 2; i++) {
            x.advise(i, 30);
            Check.due("15: digest() behind advise(" + i + ", 30)", before, x.digest());
        }
        HailLeague twin = busy();
        Check.due("what passes then", twin.pass(30), x.pass(30));
        Check.due("digest() then", twin.digest(), x.digest());
    }
}
