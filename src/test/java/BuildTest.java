/** Promises 1 to 7: a new object, plant, sign, cannon, load, gather, setWind. */
public final class BuildTest {
    private static final int[] NO_PLACES = {-1, 30, Integer.MIN_VALUE, Integer.MAX_VALUE};

    public static void main(String[] args) {
        newObject();
        plant();
        sign();
        cannon();
        load();
        gather();
        setWind();
        numbersAreTheirKindsOwn();
        Check.end();
    }

    private static void newObject() {
        HailLeague x = new HailLeague();
        int[] counts = {0, 0, 50, 0, 0, 0, 0, 0, 0, 0};
        for (int what = 0; what < 10; what++) {
            Check.due("1: count(" + what + ")", counts[what], x.count(what));
        }
        Check.outOfBounds("1: vineyard(0, 0)", x, () -> x.vineyard(0, 0));
        Check.outOfBounds("1: about(0, 0)", x, () -> x.about(0, 0));
        Check.outOfBounds("1: cloud(0, 0)", x, () -> x.cloud(0, 0));
        for (int hour = 0; hour < 6; hour++) {
            Check.due("1: setWind(" + hour + ", 0)", 0, x.setWind(hour, 0));
        }
        x.plant(3, 4, true, true);
        Check.due("1: another object has no vineyard of this one", 0, new HailLeague().count(3));
    }

    private static void plant() {
        HailLeague x = new HailLeague();
        for (int place : NO_PLACES) {
            Check.illegalArgument("2: plant(" + place + ", 5)", x, () -> x.plant(place, 5, true, true));
        }
        for (int vines : new int[] {-1, 100, Integer.MIN_VALUE, Integer.MAX_VALUE}) {
            Check.illegalArgument("2: plant(5, " + vines + ")", x, () -> x.plant(5, vines, true, true));
        }
        for (int i = 0; i < 10; i++) {
            Check.due("2: plant " + i, i, x.plant(i == 9 ? 29 : i, i == 9 ? 99 : 3 * i, i % 2 == 0, i % 3 == 0));
        }
        for (int i = 0; i < 10; i++) {
            int[] facts = {i == 9 ? 29 : i, i == 9 ? 99 : 3 * i, i % 2 == 0 ? 1 : 0, i % 3 == 0 ? 1 : 0, 0, 0, 0};
            for (int what = 0; what < 7; what++) {
                Check.due("2: vineyard(" + i + ", " + what + ")", facts[what], x.vineyard(i, what));
            }
        }
        Check.illegalState("2: an eleventh plant", x, () -> x.plant(5, 5, true, true));
        Check.illegalArgument("2: an eleventh plant at 30", x, () -> x.plant(30, 5, true, true));
        Check.illegalArgument("2: an eleventh plant of 100", x, () -> x.plant(5, 100, true, true));
    }

    private static void sign() {
        HailLeague x = new HailLeague();
        Check.outOfBounds("3: sign(0) of none", x, () -> x.sign(0, true, true));
        x.plant(1, 1, false, false);
        x.plant(1, 1, true, true);
        Check.outOfBounds("3: sign(2)", x, () -> x.sign(2, true, true));
        Check.outOfBounds("3: sign(-1)", x, () -> x.sign(-1, true, true));
        Check.due("3: sign(0) of neither", 0, x.sign(0, true, false));
        Check.due("3: vineyard(0, 2)", 1, x.vineyard(0, 2));
        Check.due("3: vineyard(0, 3)", 0, x.vineyard(0, 3));
        Check.due("3: sign(0) of a member", 1, x.sign(0, false, true));
        Check.due("3: vineyard(0, 2) then", 0, x.vineyard(0, 2));
        Check.due("3: vineyard(0, 3) then", 1, x.vineyard(0, 3));
        Check.due("3: sign(0) of an insured one", 2, x.sign(0, true, true));
        Check.due("3: sign(0) of both", 3, x.sign(0, false, false));
        Check.due("3: sign(0) of neither again", 0, x.sign(0, false, false));
        Check.due("3: the other vineyard's sign", 3, x.sign(1, true, true));
        Check.due("3: coins", 50, x.count(2));
    }

    private static void cannon() {
        HailLeague x = new HailLeague();
        for (int place : NO_PLACES) {
            Check.illegalArgument("4: cannon(" + place + ", 3, 3)", x, () -> x.cannon(place, 3, 3));
        }
        for (int range : new int[] {0, 10, -1, Integer.MIN_VALUE, Integer.MAX_VALUE}) {
            Check.illegalArgument("4: cannon(3, " + range + ", 3)", x, () -> x.cannon(3, range, 3));
        }
        for (int powder : new int[] {-1, 61, Integer.MIN_VALUE, Integer.MAX_VALUE}) {
            Check.illegalArgument("4: cannon(3, 3, " + powder + ")", x, () -> x.cannon(3, 3, powder));
        }
        int[] places = {0, 29, 7, 8, 9, 10};
        int[] ranges = {1, 9, 2, 3, 4, 5};
        int[] powders = {0, 60, 11, 12, 13, 14};
        for (int i = 0; i < 6; i++) {
            Check.due("4: cannon " + i, i, x.cannon(places[i], ranges[i], powders[i]));
        }
        for (int i = 0; i < 6; i++) {
            int[] facts = {places[i], ranges[i], powders[i], 0, -1};
            for (int what = 0; what < 5; what++) {
                Check.due("4: about(" + i + ", " + what + ")", facts[what], x.about(i, what));
            }
        }
        Check.due("4: coins", 50, x.count(2));
        Check.illegalState("4: a seventh cannon", x, () -> x.cannon(3, 3, 3));
        Check.illegalArgument("4: a seventh cannon at 30", x, () -> x.cannon(30, 3, 3));
        Check.illegalArgument("4: a seventh cannon of range 0", x, () -> x.cannon(3, 0, 3));
        Check.illegalArgument("4: a seventh cannon with powder 61", x, () -> x.cannon(3, 3, 61));
    }

    private static void load() {
        HailLeague x = new HailLeague();
        Check.outOfBounds("5: load(0, 5) of none", x, () -> x.load(0, 5));
        x.cannon(1, 1, 0);
        x.cannon(2, 2, 58);
        Check.outOfBounds("5: load(2, 5)", x, () -> x.load(2, 5));
        Check.outOfBounds("5: load(-1, 5)", x, () -> x.load(-1, 5));
        Check.outOfBounds("5: load(2, 0) of none and with nothing", x, () -> x.load(2, 0));
        for (int powder : new int[] {0, -1, 61, Integer.MIN_VALUE, Integer.MAX_VALUE}) {
            Check.illegalArgument("5: load(0, " + powder + ")", x, () -> x.load(0, powder));
        }
        Check.due("5: load(0, 4)", 4, x.load(0, 4));
        Check.due("5: coins for 4", 50, x.count(2));
        Check.due("5: load(0, 5)", 9, x.load(0, 5));
        Check.due("5: coins for 5", 49, x.count(2));
        Check.due("5: load(0, 9)", 18, x.load(0, 9));
        Check.due("5: coins for 9", 48, x.count(2));
        Check.due("5: load(1, 2)", 60, x.load(1, 2));
        Check.due("5: load(1, 60) is lost", 60, x.load(1, 60));
        Check.due("5: but paid", 36, x.count(2));
        Check.due("5: about(1, 2)", 60, x.about(1, 2));
        Check.due("5: about(0, 2)", 18, x.about(0, 2));
        Check.due("5: load(0, 43)", 60, x.load(0, 43));
        Check.due("5: coins for 43", 28, x.count(2));
        for (int i = 0; i < 3; i++) {
            x.load(0, 60);
        }
        Check.due("5: coins below 0", -8, x.count(2));
    }

    private static void gather() {
        HailLeague x = new HailLeague();
        for (int place : NO_PLACES) {
            Check.illegalArgument("6: gather(" + place + ", 1, 5)", x, () -> x.gather(place, 1, 5));
        }
        for (int drift : new int[] {-4, 4, Integer.MIN_VALUE, Integer.MAX_VALUE}) {
            Check.illegalArgument("6: gather(5, " + drift + ", 5)", x, () -> x.gather(5, drift, 5));
        }
        for (int hail : new int[] {-1, 61, Integer.MIN_VALUE, Integer.MAX_VALUE}) {
            Check.illegalArgument("6: gather(5, 1, " + hail + ")", x, () -> x.gather(5, 1, hail));
        }
        for (int i = 0; i < 20; i++) {
            Check.due("6: gather " + i, i, x.gather(i == 19 ? 29 : i, i % 7 - 3, i == 19 ? 60 : i));
        }
        for (int i = 0; i < 20; i++) {
            int[] facts = {i == 19 ? 29 : i, i % 7 - 3, i == 19 ? 60 : i, 0};
            for (int what = 0; what < 4; what++) {
                Check.due("6: cloud(" + i + ", " + what + ")", facts[what], x.cloud(i, what));
            }
        }
        Check.illegalState("6: a 21st cloud", x, () -> x.gather(5, 1, 5));
        Check.illegalArgument("6: a 21st cloud at 30", x, () -> x.gather(30, 1, 5));
        Check.illegalArgument("6: a 21st cloud of drift 4", x, () -> x.gather(5, 4, 5));
        Check.illegalArgument("6: a 21st cloud of hail 61", x, () -> x.gather(5, 1, 61));
        x.pass(96);
        Check.due("6: clouds left, those of drift 0", 3, x.count(8));
        Check.illegalState("6: clouds that are gone count too", x, () -> x.gather(5, 1, 5));
    }

    private static void setWind() {
        HailLeague x = new HailLeague();
        for (int hour : new int[] {-1, 6, Integer.MIN_VALUE, Integer.MAX_VALUE}) {
            Check.outOfBounds("7: setWind(" + hour + ", 1)", x, () -> x.setWind(hour, 1));
            Check.outOfBounds("7: setWind(" + hour + ", 3)", x, () -> x.setWind(hour, 3));
        }
        for (int wind : new int[] {-3, 3, Integer.MIN_VALUE, Integer.MAX_VALUE}) {
            Check.illegalArgument("7: setWind(5, " + wind + ")", x, () -> x.setWind(5, wind));
        }
        int[] winds = {-2, 2, 1, 0, -1, 2};
        for (int hour = 0; hour < 6; hour++) {
            Check.due("7: setWind(" + hour + ")", 0, x.setWind(hour, winds[hour]));
        }
        for (int hour = 0; hour < 6; hour++) {
            Check.due("7: setWind(" + hour + ") again", winds[hour], x.setWind(hour, winds[hour]));
        }
        x.gather(10, 0, 0);
        int[] places = {8, 10, 11, 11, 10, 12, 10, 12, 13, 13};
        for (int i = 0; i < places.length; i++) {
            x.pass(1);
            Check.due("7: the cloud's place behind hour " + i, places[i], x.cloud(0, 0));
        }
    }

    private static void numbersAreTheirKindsOwn() {
        HailLeague x = new HailLeague();
        Check.due("a vineyard", 0, x.plant(1, 1, true, true));
        Check.due("a cannon", 0, x.cannon(1, 1, 1));
        Check.due("a cloud", 0, x.gather(1, 1, 1));
        Check.due("a second vineyard", 1, x.plant(1, 1, true, true));
        Check.due("a second cannon", 1, x.cannon(1, 1, 1));
        Check.due("a second cloud", 1, x.gather(1, 1, 1));
    }
}
