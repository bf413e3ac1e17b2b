/** What promises 1 to 7 say of boundaries, sentence by sentence. */
public final class EdgesOfPromises1To7Test {
    private static final int[] NO_PLACES = {-1, 30, Integer.MIN_VALUE, Integer.MAX_VALUE};

    public static void main(String[] args) {
        promise1();
        promise2();
        promise3();
        promise4();
        promise5();
        promise6();
        promise7();
        Check.end();
    }

    private static void promise1() {
        Check.sentence("Promise 1", "a valley without vineyards, cannons and clouds",
                EdgesOfPromises1To7Test::newValleyHasNone);
        Check.sentence("Promise 1", "in the hour 0", EdgesOfPromises1To7Test::newValleyIsInHour0);
    }

    private static void promise2() {
        Check.sentence("Promise 2", "Returns its number.", EdgesOfPromises1To7Test::plantReturnsItsNumber);
        Check.sentence("Promise 2", "Throws `IllegalArgumentException` if place is not 0 to 29",
                EdgesOfPromises1To7Test::plantPlaceIsNot0To29);
        Check.sentence("Promise 2", "or vines is not 0 to 99", EdgesOfPromises1To7Test::plantVinesIsNot0To99);
        Check.sentence("Promise 2", "Throws `IllegalStateException` if there are 10",
                EdgesOfPromises1To7Test::plantThereAre10);
    }

    private static void promise3() {
        Check.sentence("Promise 3", "Returns 1 if it was a member, and 2 if it was insured, added.",
                EdgesOfPromises1To7Test::signReturnsWhatWas);
        Check.sentence("Promise 3", "whether it is a member from now on", EdgesOfPromises1To7Test::signFromNowOn);
        Check.sentence("Promise 3", "Throws `IndexOutOfBoundsException` if there is no such vineyard",
                EdgesOfPromises1To7Test::signNoSuchVineyard);
    }

    private static void promise4() {
        Check.sentence("Promise 4", "Returns its number.", EdgesOfPromises1To7Test::cannonReturnsItsNumber);
        Check.sentence("Promise 4", "Throws `IllegalArgumentException` if place is not 0 to 29",
                EdgesOfPromises1To7Test::cannonPlaceIsNot0To29);
        Check.sentence("Promise 4", "range is not 1 to 9", EdgesOfPromises1To7Test::cannonRangeIsNot1To9);
        Check.sentence("Promise 4", "or powder is not 0 to 60", EdgesOfPromises1To7Test::cannonPowderIsNot0To60);
        Check.sentence("Promise 4", "Throws `IllegalStateException` if there are 6",
                EdgesOfPromises1To7Test::cannonThereAre6);
    }

    private static void promise5() {
        Check.sentence("Promise 5", "a coin for each 5 (cut)", EdgesOfPromises1To7Test::loadACoinForEach5);
        Check.sentence("Promise 5", "Returns its powder then: what is more than 60 is lost, but paid.",
                EdgesOfPromises1To7Test::loadMoreThan60);
        Check.sentence("Promise 5", "Throws `IndexOutOfBoundsException` if there is no such cannon",
                EdgesOfPromises1To7Test::loadNoSuchCannon);
        Check.sentence("Promise 5", "Throws `IllegalArgumentException` if powder is not 1 to 60",
                EdgesOfPromises1To7Test::loadPowderIsNot1To60);
    }

    private static void promise6() {
        Check.sentence("Promise 6", "Returns its number.", EdgesOfPromises1To7Test::gatherReturnsItsNumber);
        Check.sentence("Promise 6", "Throws `IllegalArgumentException` if place is not 0 to 29",
                EdgesOfPromises1To7Test::gatherPlaceIsNot0To29);
        Check.sentence("Promise 6", "drift is not -3 to 3", EdgesOfPromises1To7Test::gatherDriftIsNotMinus3To3);
        Check.sentence("Promise 6", "or hail is not 0 to 60", EdgesOfPromises1To7Test::gatherHailIsNot0To60);
        Check.sentence("Promise 6", "Throws `IllegalStateException` if there were 20",
                EdgesOfPromises1To7Test::gatherThereWere20);
    }

    private static void promise7() {
        Check.sentence("Promise 7", "Returns the wind before.", EdgesOfPromises1To7Test::setWindReturnsTheWindBefore);
        Check.sentence("Promise 7", "Throws `IndexOutOfBoundsException` if hour is not 0 to 5",
                EdgesOfPromises1To7Test::setWindHourIsNot0To5);
        Check.sentence("Promise 7", "Throws `IllegalArgumentException` if wind is not -2 to 2",
                EdgesOfPromises1To7Test::setWindWindIsNotMinus2To2);
    }

    private static void newValleyHasNone() {
        HailLeague x = new HailLeague();
        for (int what = 3; what <= 9; what++) {
            Check.due("count(" + what + ")", 0, x.count(what));
        }
        Check.outOfBounds("vineyard(0, 0)", x, () -> x.vineyard(0, 0));
        Check.outOfBounds("about(0, 0)", x, () -> x.about(0, 0));
        Check.outOfBounds("cloud(0, 0)", x, () -> x.cloud(0, 0));
        Check.outOfBounds("sign(0, true, true)", x, () -> x.sign(0, true, true));
        Check.outOfBounds("load(0, 1)", x, () -> x.load(0, 1));
        Check.outOfBounds("hit(0)", x, () -> x.hit(0));
        Check.outOfBounds("advise(0, 1)", x, () -> x.advise(0, 1));
        Check.outOfBounds("move(0, 0)", x, () -> x.move(0, 0));
        Check.due("mean()", 0.0, x.mean());
        for (int what : new int[] {3, 4, 5, 8}) {
            Check.due("foresee(96, " + what + ")", 0, x.foresee(96, what));
        }
        Check.due("foresee(96, 2)", 50, x.foresee(96, 2));
        Check.due("pass(96)", 0, x.pass(96));
        Check.due("coins behind it", 50, x.count(2));
    }

    private static void newValleyIsInHour0() {
        HailLeague x = new HailLeague();
        Check.due("count(0)", 0, x.count(0));
        Check.due("count(1)", 0, x.count(1));
        x.pass(5);
        Check.due("count(0) of another one", 0, new HailLeague().count(0));
    }

    private static void plantReturnsItsNumber() {
        HailLeague x = new HailLeague();
        x.cannon(1, 1, 1);
        x.gather(1, 1, 1);
        Check.due("the first", 0, x.plant(1, 1, true, true));
        Check.illegalArgument("plant(30, 1)", x, () -> x.plant(30, 1, true, true));
        Check.due("the second, behind one that was refused", 1, x.plant(1, 1, true, true));
        for (int i = 2; i < 9; i++) {
            x.plant(1, 1, true, true);
        }
        Check.due("the last", 9, x.plant(1, 1, true, true));
    }

    private static void plantPlaceIsNot0To29() {
        HailLeague x = new HailLeague();
        for (int place : NO_PLACES) {
            Check.illegalArgument("plant(" + place + ", 5)", x, () -> x.plant(place, 5, true, true));
        }
        Check.due("plant(0, 5)", 0, x.plant(0, 5, true, true));
        Check.due("plant(29, 5)", 1, x.plant(29, 5, true, true));
        Check.due("vineyard(0, 0)", 0, x.vineyard(0, 0));
        Check.due("vineyard(1, 0)", 29, x.vineyard(1, 0));
    }

    private static void plantVinesIsNot0To99() {
        HailLeague x = new HailLeague();
        for (int vines : new int[] {-1, 100, Integer.MIN_VALUE, Integer.MAX_VALUE}) {
            Check.illegalArgument("plant(5, " + vines + ")", x, () -> x.plant(5, vines, true, true));
        }
        Check.due("plant(5, 0)", 0, x.plant(5, 0, true, true));
        Check.due("plant(5, 99)", 1, x.plant(5, 99, true, true));
        Check.due("vineyard(0, 1)", 0, x.vineyard(0, 1));
        Check.due("vineyard(1, 1)", 99, x.vineyard(1, 1));
    }

    private static void plantThereAre10() {
        HailLeague x = new HailLeague();
        for (int i = 0; i < 9; i++) {
            x.plant(i, 5, true, true);
        }
        Check.due("the tenth", 9, x.plant(9, 5, true, true));
        Check.illegalState("an eleventh", x, () -> x.plant(10, 5, true, true));
        Check.illegalState("an eleventh again", x, () -> x.plant(0, 0, false, false));
        Check.due("members", 10, x.count(6));
        Check.due("vines", 50, x.count(3));
        Check.outOfBounds("vineyard(10, 0)", x, () -> x.vineyard(10, 0));
    }

    private static void signReturnsWhatWas() {
        for (int was = 0; was < 4; was++) {
            for (int then = 0; then < 4; then++) {
                HailLeague x = new HailLeague();
                x.plant(1, 1, (was & 1) != 0, (was & 2) != 0);
                Check.due("sign " + was + " as " + then, was, x.sign(0, (then & 1) != 0, (then & 2) != 0));
                Check.due("vineyard(0, 2) behind it", then & 1, x.vineyard(0, 2));
                Check.due("vineyard(0, 3) behind it", then >> 1, x.vineyard(0, 3));
                Check.due("members", then & 1, x.count(6));
                Check.due("insured", then >> 1, x.count(7));
            }
        }
    }

    private static void signFromNowOn() {
        HailLeague x = new HailLeague();
        x.plant(5, 50, false, true);
        x.plant(5, 50, true, false);
        x.cannon(5, 1, 60);
        x.gather(5, 0, 60);
        x.pass(1);
        x.sign(0, true, false);
        x.sign(1, false, true);
        Check.due("suits of one that was no member", 1, x.vineyard(0, 5));
        Check.due("suits of one that was a member", 0, x.vineyard(1, 5));
        x.pass(1);
        Check.due("suits of one that is a member now", 1, x.vineyard(0, 5));
        Check.due("suits of one that is no member now", 1, x.vineyard(1, 5));
        x.pass(21);
        Check.due("coins in the last hour of the day", 50, x.count(2));
        x.sign(1, false, false);
        x.pass(1);
        // 10 hours have hail: a suit of the first, and 9 of the second; none is insured any more.
        Check.due("coins, when the day has ended", 40, x.count(2));
    }

    private static void signNoSuchVineyard() {
        HailLeague x = new HailLeague();
        Check.outOfBounds("sign(0) of none", x, () -> x.sign(0, true, true));
        for (int i = 0; i < 10; i++) {
            int next = i + 1;
            x.plant(i, i, false, false);
            Check.due("sign(" + i + ")", 0, x.sign(i, false, false));
            Check.outOfBounds("sign(" + next + ") of " + next, x, () -> x.sign(next, true, true));
        }
        for (int i : new int[] {-1, 11, Integer.MIN_VALUE, Integer.MAX_VALUE}) {
            Check.outOfBounds("sign(" + i + ")", x, () -> x.sign(i, true, true));
        }
    }

    private static void cannonReturnsItsNumber() {
        HailLeague x = new HailLeague();
        x.plant(1, 1, true, true);
        x.gather(1, 1, 1);
        Check.due("the first", 0, x.cannon(1, 1, 1));
        Check.illegalArgument("cannon(1, 10, 1)", x, () -> x.cannon(1, 10, 1));
        Check.due("the second, behind one that was refused", 1, x.cannon(1, 1, 1));
        for (int i = 2; i < 5; i++) {
            x.cannon(1, 1, 1);
        }
        Check.due("the last", 5, x.cannon(1, 1, 1));
    }

    private static void cannonPlaceIsNot0To29() {
        HailLeague x = new HailLeague();
        for (int place : NO_PLACES) {
            Check.illegalArgument("cannon(" + place + ", 5, 5)", x, () -> x.cannon(place, 5, 5));
        }
        Check.due("cannon(0, 5, 5)", 0, x.cannon(0, 5, 5));
        Check.due("cannon(29, 5, 5)", 1, x.cannon(29, 5, 5));
        Check.due("about(0, 0)", 0, x.about(0, 0));
        Check.due("about(1, 0)", 29, x.about(1, 0));
    }

    private static void cannonRangeIsNot1To9() {
        HailLeague x = new HailLeague();
        for (int range : new int[] {0, 10, -1, Integer.MIN_VALUE, Integer.MAX_VALUE}) {
            Check.illegalArgument("cannon(5, " + range + ", 5)", x, () -> x.cannon(5, range, 5));
        }
        Check.due("cannon(5, 1, 5)", 0, x.cannon(5, 1, 5));
        Check.due("cannon(5, 9, 5)", 1, x.cannon(5, 9, 5));
        Check.due("about(0, 1)", 1, x.about(0, 1));
        Check.due("about(1, 1)", 9, x.about(1, 1));
    }

    private static void cannonPowderIsNot0To60() {
        HailLeague x = new HailLeague();
        for (int powder : new int[] {-1, 61, Integer.MIN_VALUE, Integer.MAX_VALUE}) {
            Check.illegalArgument("cannon(5, 5, " + powder + ")", x, () -> x.cannon(5, 5, powder));
        }
        Check.due("cannon(5, 5, 0)", 0, x.cannon(5, 5, 0));
        Check.due("cannon(5, 5, 60)", 1, x.cannon(5, 5, 60));
        Check.due("about(0, 2)", 0, x.about(0, 2));
        Check.due("about(1, 2)", 60, x.about(1, 2));
        Check.due("coins: its first powder is not paid", 50, x.count(2));
    }

    private static void cannonThereAre6() {
        HailLeague x = new HailLeague();
        for (int i = 0; i < 5; i++) {
            x.cannon(i, 5, 5);
        }
        Check.due("the sixth", 5, x.cannon(5, 5, 5));
        Check.illegalState("a seventh", x, () -> x.cannon(6, 5, 5));
        Check.illegalState("a seventh again", x, () -> x.cannon(0, 1, 0));
        Check.outOfBounds("about(6, 0)", x, () -> x.about(6, 0));
    }

    private static void loadACoinForEach5() {
        int[] powder = {1, 4, 5, 6, 9, 10, 54, 55, 59, 60};
        int[] coins = {0, 0, 1, 1, 1, 2, 10, 11, 11, 12};
        for (int i = 0; i < powder.length; i++) {
            HailLeague x = new HailLeague();
            x.cannon(5, 5, 0);
            Check.due("load(0, " + powder[i] + ")", powder[i], x.load(0, powder[i]));
            Check.due("coins behind it", 50 - coins[i], x.count(2));
        }
        HailLeague y = new HailLeague();
        y.cannon(5, 5, 0);
        for (int i = 0; i < 10; i++) {
            y.load(0, 4);
        }
        Check.due("coins behind ten loads of 4, each cut by itself", 50, y.count(2));
    }

    private static void loadMoreThan60() {
        int[] before = {0, 1, 59, 59, 60, 60, 55, 55};
        int[] bought = {60, 60, 1, 2, 1, 60, 5, 6};
        int[] coins = {12, 12, 0, 0, 0, 12, 1, 1};
        for (int i = 0; i < before.length; i++) {
            HailLeague x = new HailLeague();
            x.cannon(5, 5, before[i]);
            Check.due("load(0, " + bought[i] + ") upon " + before[i], 60, x.load(0, bought[i]));
            Check.due("about(0, 2) behind it", 60, x.about(0, 2));
            Check.due("coins behind it", 50 - coins[i], x.count(2));
        }
        HailLeague y = new HailLeague();
        y.cannon(5, 5, 54);
        Check.due("load(0, 5) upon 54", 59, y.load(0, 5));
    }

    private static void loadNoSuchCannon() {
        HailLeague x = new HailLeague();
        Check.outOfBounds("load(0, 5) of none", x, () -> x.load(0, 5));
        for (int i = 0; i < 6; i++) {
            int next = i + 1;
            x.cannon(i, 1, 0);
            Check.due("load(" + i + ", 5)", 5, x.load(i, 5));
            Check.outOfBounds("load(" + next + ", 5) of " + next, x, () -> x.load(next, 5));
        }
        for (int i : new int[] {-1, 7, Integer.MIN_VALUE, Integer.MAX_VALUE}) {
            Check.outOfBounds("load(" + i + ", 5)", x, () -> x.load(i, 5));
        }
    }

    private static void loadPowderIsNot1To60() {
        HailLeague x = new HailLeague();
        x.cannon(5, 5, 0);
        for (int powder : new int[] {0, 61, -1, Integer.MIN_VALUE, Integer.MAX_VALUE}) {
            Check.illegalArgument("load(0, " + powder + ")", x, () -> x.load(0, powder));
        }
        Check.due("load(0, 1)", 1, x.load(0, 1));
        Check.due("load(0, 60)", 60, x.load(0, 60));
        Check.illegalArgument("load(0, 61) when it is full", x, () -> x.load(0, 61));
    }

    private static void gatherReturnsItsNumber() {
        HailLeague x = new HailLeague();
        x.plant(1, 1, true, true);
        x.cannon(1, 1, 1);
        Check.due("the first", 0, x.gather(29, 1, 1));
        Check.illegalArgument("gather(1, 4, 1)", x, () -> x.gather(1, 4, 1));
        Check.due("the second, behind one that was refused", 1, x.gather(29, 1, 1));
        x.pass(1);
        Check.due("the third, when the others are gone", 2, x.gather(29, 1, 1));
        for (int i = 3; i < 19; i++) {
            x.gather(1, 1, 1);
        }
        Check.due("the last", 19, x.gather(1, 1, 1));
    }

    private static void gatherPlaceIsNot0To29() {
        HailLeague x = new HailLeague();
        for (int place : NO_PLACES) {
            Check.illegalArgument("gather(" + place + ", 0, 5)", x, () -> x.gather(place, 0, 5));
        }
        Check.due("gather(0, 0, 5)", 0, x.gather(0, 0, 5));
        Check.due("gather(29, 0, 5)", 1, x.gather(29, 0, 5));
        Check.due("cloud(0, 0)", 0, x.cloud(0, 0));
        Check.due("cloud(1, 0)", 29, x.cloud(1, 0));
        Check.due("clouds there", 2, x.count(8));
    }

    private static void gatherDriftIsNotMinus3To3() {
        HailLeague x = new HailLeague();
        for (int drift : new int[] {-4, 4, Integer.MIN_VALUE, Integer.MAX_VALUE}) {
            Check.illegalArgument("gather(5, " + drift + ", 5)", x, () -> x.gather(5, drift, 5));
        }
        Check.due("gather(5, -3, 5)", 0, x.gather(5, -3, 5));
        Check.due("gather(5, 3, 5)", 1, x.gather(5, 3, 5));
        Check.due("cloud(0, 1)", -3, x.cloud(0, 1));
        Check.due("cloud(1, 1)", 3, x.cloud(1, 1));
    }

    private static void gatherHailIsNot0To60() {
        HailLeague x = new HailLeague();
        for (int hail : new int[] {-1, 61, Integer.MIN_VALUE, Integer.MAX_VALUE}) {
            Check.illegalArgument("gather(5, 0, " + hail + ")", x, () -> x.gather(5, 0, hail));
        }
        Check.due("gather(5, 0, 0)", 0, x.gather(5, 0, 0));
        Check.due("gather(5, 0, 60)", 1, x.gather(5, 0, 60));
        Check.due("cloud(0, 2)", 0, x.cloud(0, 2));
        Check.due("cloud(1, 2)", 60, x.cloud(1, 2));
        Check.due("one without hail is there too", 2, x.count(8));
    }

    private static void gatherThereWere20() {
        HailLeague x = new HailLeague();
        for (int i = 0; i < 19; i++) {
            x.gather(29, 1, 5);
        }
        x.pass(1);
        Check.due("clouds there", 0, x.count(8));
        Check.due("the 20th", 19, x.gather(29, 1, 5));
        Check.illegalState("a 21st", x, () -> x.gather(10, 0, 5));
        x.pass(1);
        Check.due("clouds there then", 0, x.count(8));
        Check.illegalState("a 21st when all are gone", x, () -> x.gather(10, 0, 5));
        Check.outOfBounds("cloud(20, 0)", x, () -> x.cloud(20, 0));
    }

    private static void setWindReturnsTheWindBefore() {
        HailLeague x = new HailLeague();
        for (int hour = 0; hour < 6; hour++) {
            int at = hour;
            Check.due("setWind(" + hour + ", -2) at first", 0, x.setWind(hour, -2));
            Check.illegalArgument("setWind(" + hour + ", 3)", x, () -> x.setWind(at, 3));
            Check.due("setWind(" + hour + ", 2), behind one that was refused", -2, x.setWind(hour, 2));
            Check.due("setWind(" + hour + ", 2) again", 2, x.setWind(hour, 2));
        }
        x.pass(7);
        Check.due("setWind(0, 0) behind hours", 2, x.setWind(0, 0));
    }

    private static void setWindHourIsNot0To5() {
        HailLeague x = new HailLeague();
        for (int hour : new int[] {-1, 6, Integer.MIN_VALUE, Integer.MAX_VALUE}) {
            Check.outOfBounds("setWind(" + hour + ", 1)", x, () -> x.setWind(hour, 1));
        }
        Check.due("setWind(0, 1)", 0, x.setWind(0, 1));
        Check.due("setWind(5, -1)", 0, x.setWind(5, -1));
        x.pass(6);
        Check.outOfBounds("setWind(6, 1) in hour 6", x, () -> x.setWind(6, 1));
        Check.due("setWind(0, 1) again", 1, x.setWind(0, 1));
        Check.due("setWind(5, -1) again", -1, x.setWind(5, -1));
    }

    private static void setWindWindIsNotMinus2To2() {
        HailLeague x = new HailLeague();
        for (int wind : new int[] {-3, 3, Integer.MIN_VALUE, Integer.MAX_VALUE}) {
            Check.illegalArgument("setWind(3, " + wind + ")", x, () -> x.setWind(3, wind));
        }
        Check.due("setWind(3, -2)", 0, x.setWind(3, -2));
        Check.due("setWind(3, 2)", -2, x.setWind(3, 2));
        Check.due("setWind(3, 0)", 2, x.setWind(3, 0));
    }
}
