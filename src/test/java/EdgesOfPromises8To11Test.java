/** What promises 8 to 11 say of boundaries, sentence by sentence. */
public final class EdgesOfPromises8To11Test {
    public static void main(String[] args) {
        promise8();
        promise9();
        promise10();
        promise11();
        Check.end();
    }

    private static void promise8() {
        Check.sentence("Promise 8", "Throws `IndexOutOfBoundsException` if there is no such vineyard",
                EdgesOfPromises8To11Test::noSuchVineyard);
        Check.sentence("Promise 8", "or what is not 0 to 6", EdgesOfPromises8To11Test::vineyardWhatIsNot0To6);
        Check.sentence("Promise 8", "2 1 if it is a member, else 0, 3 1 if it is insured, else 0",
                EdgesOfPromises8To11Test::memberElse0);
        Check.sentence("Promise 8", "4 vines that it lost in this day, 5 its suits, 6 vines that it lost in all",
                EdgesOfPromises8To11Test::lostInThisDayAndInAll);
    }

    private static void promise9() {
        Check.sentence("Promise 9", "Throws `IndexOutOfBoundsException` if there is no such cannon",
                EdgesOfPromises8To11Test::noSuchCannon);
        Check.sentence("Promise 9", "or what is not 0 to 4", EdgesOfPromises8To11Test::aboutWhatIsNot0To4);
        Check.sentence("Promise 9", "2 its powder, 3 shots in all", EdgesOfPromises8To11Test::shotsInAll);
        Check.sentence("Promise 9", "4 the cloud at which it would shoot, if it shot now",
                EdgesOfPromises8To11Test::ifItShotNow);
        Check.sentence("Promise 9", "-1 for none", EdgesOfPromises8To11Test::noneToShootAt);
        Check.sentence("Promise 9", "(also without powder)", EdgesOfPromises8To11Test::alsoWithoutPowder);
    }

    private static void promise10() {
        Check.sentence("Promise 10", "Throws `IndexOutOfBoundsException` if there is no such cloud",
                EdgesOfPromises8To11Test::noSuchCloud);
        Check.sentence("Promise 10", "or what is not 0 to 3", EdgesOfPromises8To11Test::cloudWhatIsNot0To3);
        Check.sentence("Promise 10", "0 its place (of one that is gone that beyond the valley)",
                EdgesOfPromises8To11Test::placeBeyondTheValley);
        Check.sentence("Promise 10", "2 its hail, 3 1 if it is gone, else 0", EdgesOfPromises8To11Test::goneElse0);
    }

    private static void promise11() {
        Check.sentence("Promise 11", "Throws `IndexOutOfBoundsException` if what is not 0 to 9",
                EdgesOfPromises8To11Test::countWhatIsNot0To9);
        Check.sentence("Promise 11", "0 the hour, 1 the hour of the day, 2 coins",
                EdgesOfPromises8To11Test::hourOfTheDay);
        Check.sentence("Promise 11", "3 vines of all, 4 vines that were lost in all, 5 suits of all",
                EdgesOfPromises8To11Test::sumsOfNoneAndOfTen);
        Check.sentence("Promise 11", "6 members, 7 insured vineyards", EdgesOfPromises8To11Test::membersAndInsured);
        Check.sentence("Promise 11", "8 clouds that are not gone", EdgesOfPromises8To11Test::cloudsNotGone);
        Check.sentence("Promise 11", "9 shots in all", EdgesOfPromises8To11Test::shotsOfAll);
    }

    private static HailLeague oneOfEach() {
        HailLeague x = new HailLeague();
        x.plant(5, 50, false, false);
        x.cannon(5, 1, 60);
        x.gather(5, 0, 60);
        return x;
    }

    private static void noSuchVineyard() {
        HailLeague x = new HailLeague();
        Check.outOfBounds("vineyard(0, 0) of none", x, () -> x.vineyard(0, 0));
        for (int i = 0; i < 10; i++) {
            int next = i + 1;
            x.plant(i, i, true, true);
            Check.due("vineyard(" + i + ", 0)", i, x.vineyard(i, 0));
            Check.outOfBounds("vineyard(" + next + ", 0) of " + next, x, () -> x.vineyard(next, 0));
        }
        for (int i : new int[] {-1, 11, Integer.MIN_VALUE, Integer.MAX_VALUE}) {
            Check.outOfBounds("vineyard(" + i + ", 0)", x, () -> x.vineyard(i, 0));
            Check.outOfBounds("vineyard(" + i + ", 7)", x, () -> x.vineyard(i, 7));
        }
    }

    private static void vineyardWhatIsNot0To6() {
        HailLeague x = oneOfEach();
        for (int what : new int[] {-1, 7, Integer.MIN_VALUE, Integer.MAX_VALUE}) {
            Check.outOfBounds("vineyard(0, " + what + ")", x, () -> x.vineyard(0, what));
        }
        x.pass(1);
        Check.due("vineyard(0, 0)", 5, x.vineyard(0, 0));
        Check.due("vineyard(0, 6)", 8, x.vineyard(0, 6));
    }

    private static void memberElse0() {
        HailLeague x = new HailLeague();
        for (int i = 0; i < 4; i++) {
            x.plant(5, 5, i % 2 == 1, i >= 2);
            Check.due("vineyard(" + i + ", 2)", i % 2, x.vineyard(i, 2));
            Check.due("vineyard(" + i + ", 3)", i / 2, x.vineyard(i, 3));
        }
    }

    private static void lostInThisDayAndInAll() {
        HailLeague x = oneOfEach();
        dayOf(x, "at first", 0, 0, 0);
        x.pass(1);
        dayOf(x, "behind an hour", 8, 1, 8);
        x.pass(22);
        // Of 60 hail 2 are shot and 4 dropped in each of 10 hours; all 50 vines are lost by then.
        dayOf(x, "in the last hour of the day", 50, 10, 50);
        x.pass(1);
        dayOf(x, "when the day has ended", 0, 0, 50);
        x.plant(5, 9, false, false);
        x.gather(5, 0, 60);
        x.pass(1);
        dayOf(x, "in the next day, without vines", 0, 1, 50);
    }

    private static void dayOf(HailLeague x, String when, int lostInThisDay, int suits, int lostInAll) {
        Check.due("vineyard(0, 4) " + when, lostInThisDay, x.vineyard(0, 4));
        Check.due("vineyard(0, 5) " + when, suits, x.vineyard(0, 5));
        Check.due("vineyard(0, 6) " + when, lostInAll, x.vineyard(0, 6));
    }

    private static void noSuchCannon() {
        HailLeague x = new HailLeague();
        Check.outOfBounds("about(0, 0) of none", x, () -> x.about(0, 0));
        for (int i = 0; i < 6; i++) {
            int next = i + 1;
            x.cannon(i, 1, 1);
            Check.due("about(" + i + ", 0)", i, x.about(i, 0));
            Check.outOfBounds("about(" + next + ", 0) of " + next, x, () -> x.about(next, 0));
        }
        for (int i : new int[] {-1, 7, Integer.MIN_VALUE, Integer.MAX_VALUE}) {
            Check.outOfBounds("about(" + i + ", 0)", x, () -> x.about(i, 0));
            Check.outOfBounds("about(" + i + ", 5)", x, () -> x.about(i, 5));
        }
    }

    private static void aboutWhatIsNot0To4() {
        HailLeague x = oneOfEach();
        for (int what : new int[] {-1, 5, Integer.MIN_VALUE, Integer.MAX_VALUE}) {
            Check.outOfBounds("about(0, " + what + ")", x, () -> x.about(0, what));
        }
        Check.due("about(0, 0)", 5, x.about(0, 0));
        Check.due("about(0, 4)", 0, x.about(0, 4));
    }

    private static void shotsInAll() {
        HailLeague x = oneOfEach();
        Check.due("about(0, 3) at first", 0, x.about(0, 3));
        x.pass(23);
        Check.due("about(0, 3) in the last hour of the day", 10, x.about(0, 3));
        x.pass(1);
        Check.due("about(0, 3) when the day has ended", 10, x.about(0, 3));
        x.load(0, 60);
        x.move(0, 6);
        Check.due("about(0, 3) behind load and move", 10, x.about(0, 3));
    }

    private static void ifItShotNow() {
        HailLeague x = new HailLeague();
        x.cannon(10, 2, 1);
        x.gather(7, 1, 60);
        Check.due("3 away, and nearer in the hour that comes", -1, x.about(0, 4));
        x.gather(12, 3, 60);
        Check.due("2 away, and farther in the hour that comes", 1, x.about(0, 4));
        x.gather(8, 0, 60);
        Check.due("another 2 away", 1, x.about(0, 4));
        x.gather(11, 0, 1);
        Check.due("one that is nearer", 3, x.about(0, 4));
        Check.due("its powder is not less by that", 1, x.about(0, 2));
        Check.due("nor is the hail", 1, x.cloud(3, 2));
        for (int i = 4; i < 19; i++) {
            x.gather(11, 0, 60);
        }
        x.gather(10, 0, 1);
        Check.due("the 20th cloud, the nearest", 19, x.about(0, 4));
    }

    private static void noneToShootAt() {
        HailLeague x = new HailLeague();
        x.cannon(28, 1, 60);
        Check.due("without clouds", -1, x.about(0, 4));
        x.gather(28, 0, 0);
        Check.due("with a cloud without hail", -1, x.about(0, 4));
        x.gather(26, 0, 60);
        Check.due("with a cloud too far away", -1, x.about(0, 4));
        x.move(0, 29);
        x.gather(29, 1, 60);
        x.pass(1);
        Check.due("with a cloud that is gone", -1, x.about(0, 4));
        x.move(0, 27);
        Check.due("with a cloud as far away as the range", 1, x.about(0, 4));
        x.gather(28, 0, 1);
        Check.due("with a cloud of 1 hail, as far away", 1, x.about(0, 4));
        x.gather(27, 0, 1);
        Check.due("with a cloud of 1 hail, nearer", 4, x.about(0, 4));
    }

    private static void alsoWithoutPowder() {
        HailLeague x = new HailLeague();
        x.cannon(5, 9, 0);
        x.gather(5, 0, 60);
        Check.due("with powder 0", -1, x.about(0, 4));
        x.load(0, 1);
        Check.due("with powder 1", 0, x.about(0, 4));
        x.pass(1);
        Check.due("when it is shot", -1, x.about(0, 4));
    }

    private static void noSuchCloud() {
        HailLeague x = new HailLeague();
        Check.outOfBounds("cloud(0, 0) of none", x, () -> x.cloud(0, 0));
        for (int i = 0; i < 20; i++) {
            int next = i + 1;
            x.gather(i, 3, 1);
            Check.due("cloud(" + i + ", 0)", i, x.cloud(i, 0));
            Check.outOfBounds("cloud(" + next + ", 0) of " + next, x, () -> x.cloud(next, 0));
        }
        for (int i : new int[] {-1, 21, Integer.MIN_VALUE, Integer.MAX_VALUE}) {
            Check.outOfBounds("cloud(" + i + ", 0)", x, () -> x.cloud(i, 0));
            Check.outOfBounds("cloud(" + i + ", 4)", x, () -> x.cloud(i, 4));
        }
        x.pass(10);
        Check.due("clouds there", 0, x.count(8));
        Check.due("cloud(0, 0) of one that is gone", 30, x.cloud(0, 0));
        Check.due("cloud(19, 0) of one that is gone", 31, x.cloud(19, 0));
    }

    private static void cloudWhatIsNot0To3() {
        HailLeague x = oneOfEach();
        for (int what : new int[] {-1, 4, Integer.MIN_VALUE, Integer.MAX_VALUE}) {
            Check.outOfBounds("cloud(0, " + what + ")", x, () -> x.cloud(0, what));
        }
        Check.due("cloud(0, 0)", 5, x.cloud(0, 0));
        Check.due("cloud(0, 3)", 0, x.cloud(0, 3));
    }

    private static void placeBeyondTheValley() {
        HailLeague x = new HailLeague();
        x.setWind(0, 2);
        x.setWind(1, -2);
        x.gather(29, 3, 9);
        x.gather(25, 3, 9);
        x.gather(0, -3, 9);
        x.pass(1);
        Check.due("as far beyond 29 as can be", 34, x.cloud(0, 0));
        Check.due("just beyond 29", 30, x.cloud(1, 0));
        Check.due("just beyond 0", -1, x.cloud(2, 0));
        x.gather(0, -3, 9);
        x.pass(1);
        Check.due("as far beyond 0 as can be", -5, x.cloud(3, 0));
        x.pass(96);
        int[] places = {34, 30, -1, -5};
        for (int i = 0; i < 4; i++) {
            Check.due("cloud(" + i + ", 0) days later", places[i], x.cloud(i, 0));
            Check.due("cloud(" + i + ", 2) days later", 9, x.cloud(i, 2));
        }
    }

    private static void goneElse0() {
        HailLeague x = new HailLeague();
        x.gather(28, 1, 60);
        Check.due("at 28", 0, x.cloud(0, 3));
        x.pass(1);
        Check.due("at 29", 0, x.cloud(0, 3));
        x.pass(1);
        Check.due("at 30", 1, x.cloud(0, 3));
        x.gather(0, 0, 0);
        x.pass(96);
        Check.due("without hail", 0, x.cloud(1, 3));
    }

    private static void countWhatIsNot0To9() {
        HailLeague x = oneOfEach();
        for (int what : new int[] {-1, 10, Integer.MIN_VALUE, Integer.MAX_VALUE}) {
            Check.outOfBounds("count(" + what + ")", x, () -> x.count(what));
        }
        x.pass(3);
        Check.due("count(0)", 3, x.count(0));
        Check.due("count(9)", 3, x.count(9));
    }

    private static void hourOfTheDay() {
        HailLeague x = new HailLeague();
        for (int hour = 0; hour <= 49; hour++) {
            Check.due("count(0) in hour " + hour, hour, x.count(0));
            Check.due("count(1) in hour " + hour, hour < 24 ? hour : hour < 48 ? hour - 24 : hour - 48, x.count(1));
            x.pass(1);
        }
    }

    private static void sumsOfNoneAndOfTen() {
        HailLeague x = new HailLeague();
        for (int what = 3; what <= 5; what++) {
            Check.due("count(" + what + ") of none", 0, x.count(what));
        }
        for (int i = 0; i < 10; i++) {
            x.plant(5, 99, false, false);
        }
        for (int i = 0; i < 6; i++) {
            x.cannon(3 + i % 5, 9, 60);
        }
        for (int i = 0; i < 20; i++) {
            x.gather(5, 0, 60);
        }
        Check.due("count(3) of ten full ones", 990, x.count(3));
        Check.due("count(5) without a shot", 0, x.count(5));
        Check.due("pass(1) takes all", 990, x.pass(1));
        Check.due("count(3) when all are lost", 0, x.count(3));
        Check.due("count(4) when all are lost", 990, x.count(4));
        Check.due("count(5) behind six shots", 60, x.count(5));
        x.pass(23);
        Check.due("count(3) when the day has ended", 0, x.count(3));
        Check.due("count(4) when the day has ended", 990, x.count(4));
        Check.due("count(5) when the day has ended", 0, x.count(5));
    }

    private static void membersAndInsured() {
        HailLeague x = new HailLeague();
        Check.due("members of none", 0, x.count(6));
        Check.due("insured of none", 0, x.count(7));
        for (int i = 0; i < 10; i++) {
            x.plant(5, 0, true, true);
        }
        Check.due("members of ten", 10, x.count(6));
        Check.due("insured of ten", 10, x.count(7));
        for (int i = 0; i < 10; i++) {
            x.sign(i, false, i == 9);
        }
        Check.due("members, when all have left", 0, x.count(6));
        Check.due("insured, when all but one have left", 1, x.count(7));
    }

    private static void cloudsNotGone() {
        HailLeague x = new HailLeague();
        Check.due("of none", 0, x.count(8));
        for (int i = 0; i < 20; i++) {
            x.gather(i < 10 ? 29 : 0, i == 0 ? 0 : i < 10 ? 1 : -1, 0);
        }
        Check.due("of 20", 20, x.count(8));
        x.pass(1);
        Check.due("of 20, but one gone", 1, x.count(8));
        x.setWind(1, 1);
        x.pass(1);
        Check.due("of 20, all gone", 0, x.count(8));
    }

    private static void shotsOfAll() {
        HailLeague x = new HailLeague();
        Check.due("without cannons", 0, x.count(9));
        for (int i = 0; i < 6; i++) {
            x.cannon(5, 1, i);
        }
        x.gather(5, 0, 60);
        Check.due("without a shot", 0, x.count(9));
        x.pass(1);
        Check.due("behind an hour", 5, x.count(9));
        x.pass(23);
        // Each shot takes 2 hail: 60 - 14, - 12, - 10, - 8, - 6 leaves 10, but no powder.
        Check.due("when the day has ended", 15, x.count(9));
    }
}
