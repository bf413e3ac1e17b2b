import java.math.BigInteger;
import java.util.ArrayList;
import java.util.List;

/** What promises 16 to 18 say of boundaries, sentence by sentence. */
public final class EdgesOfPromises16To18Test {
    public static void main(String[] args) {
        promise16();
        promise17();
        promise18();
        Check.end();
    }

    private static void promise16() {
        Check.sentence("Promise 16", "Moves a cannon for 2 coins.", EdgesOfPromises16To18Test::moveFor2Coins);
        Check.sentence("Promise 16", "Returns the place before.", EdgesOfPromises16To18Test::moveReturnsThePlaceBefore);
        Check.sentence("Promise 16", "Throws `IndexOutOfBoundsException` if there is no such cannon",
                EdgesOfPromises16To18Test::moveNoSuchCannon);
        Check.sentence("Promise 16", "Throws `IllegalArgumentException` if place is not 0 to 29",
                EdgesOfPromises16To18Test::movePlaceIsNot0To29);
    }

    private static void promise17() {
        Check.sentence("Promise 17", "Returns vines of all, divided by the vineyards",
                EdgesOfPromises16To18Test::meanOfOneToTen);
        Check.sentence("Promise 17", "0 if there are none", EdgesOfPromises16To18Test::meanOfNone);
    }

    private static void promise18() {
        Check.sentence("Promise 18", "A number d starts with 1201", EdgesOfPromises16To18Test::digestOfNothing);
        Check.sentence("Promise 18", "which wraps around as a 64-bit integer", EdgesOfPromises16To18Test::digestWrapsAround);
        Check.sentence("Promise 18", "for each vineyard what vineyard() tells, for each cannon what about() tells, "
                + "for each cloud what cloud() tells", EdgesOfPromises16To18Test::digestOfOneKindAlone);
        Check.sentence("Promise 18", "what count() tells, in its order", EdgesOfPromises16To18Test::digestBelow0);
        Check.sentence("Promise 18", "the wind of each hour of the table", EdgesOfPromises16To18Test::digestOfWinds);
    }

    private static void moveFor2Coins() {
        HailLeague x = new HailLeague();
        x.cannon(5, 1, 1);
        x.move(0, 6);
        Check.due("coins behind a move by 1", 48, x.count(2));
        x.move(0, 29);
        Check.due("coins behind a long move", 46, x.count(2));
        x.move(0, 29);
        Check.due("coins behind a move to where it is", 44, x.count(2));
        for (int i = 0; i < 22; i++) {
            x.move(0, i);
        }
        Check.due("coins, all spent", 0, x.count(2));
        Check.due("move(0, 3) without coins", 21, x.move(0, 3));
        Check.due("coins below 0", -2, x.count(2));
    }

    private static void moveReturnsThePlaceBefore() {
        HailLeague x = new HailLeague();
        x.cannon(0, 1, 1);
        x.cannon(29, 2, 2);
        Check.due("move(0, 29)", 0, x.move(0, 29));
        Check.illegalArgument("move(0, 30)", x, () -> x.move(0, 30));
        Check.due("move(0, 0), behind one that was refused", 29, x.move(0, 0));
        Check.due("move(0, 0)", 0, x.move(0, 0));
        Check.due("the other's place", 29, x.about(1, 0));
        Check.due("its range", 1, x.about(0, 1));
        Check.due("its powder", 1, x.about(0, 2));
    }

    private static void moveNoSuchCannon() {
        HailLeague x = new HailLeague();
        Check.outOfBounds("move(0, 5) of none", x, () -> x.move(0, 5));
        for (int i = 0; i < 6; i++) {
            int next = i + 1;
            x.cannon(i, 1, 1);
            Check.due("move(" + i + ", 5)", i, x.move(i, 5));
            Check.outOfBounds("move(" + next + ", 5) of " + next, x, () -> x.move(next, 5));
        }
        for (int i : new int[] {-1, 7, Integer.MIN_VALUE, Integer.MAX_VALUE}) {
            Check.outOfBounds("move(" + i + ", 5)", x, () -> x.move(i, 5));
        }
    }

    private static void movePlaceIsNot0To29() {
        HailLeague x = new HailLeague();
        x.cannon(5, 1, 1);
        for (int place : new int[] {-1, 30, Integer.MIN_VALUE, Integer.MAX_VALUE}) {
            Check.illegalArgument("move(0, " + place + ")", x, () -> x.move(0, place));
        }
        x.move(0, 0);
        Check.due("about(0, 0) behind move(0, 0)", 0, x.about(0, 0));
        x.move(0, 29);
        Check.due("about(0, 0) behind move(0, 29)", 29, x.about(0, 0));
    }

    private static void meanOfOneToTen() {
        HailLeague x = new HailLeague();
        x.plant(5, 0, true, true);
        Check.due("of one without vines", 0.0, x.mean());
        x.plant(5, 1, true, true);
        Check.due("of 1 in two", 0.5, x.mean());
        x.plant(5, 1, true, true);
        Check.due("of 2 in three", 2.0 / 3.0, x.mean());
        for (int i = 3; i < 10; i++) {
            x.plant(5, i == 9 ? 99 : 0, true, true);
        }
        Check.due("of 101 in ten", 10.1, x.mean());
        x.gather(5, 0, 60);
        x.pass(15);
        Check.due("when all are lost", 0.0, x.mean());
        HailLeague y = new HailLeague();
        for (int i = 0; i < 10; i++) {
            y.plant(5, 99, true, true);
            Check.due("of " + (i + 1) + " full ones", 99.0, y.mean());
        }
    }

    private static void meanOfNone() {
        HailLeague x = new HailLeague();
        Check.due("of a new object", 0.0, x.mean());
        x.cannon(5, 5, 5);
        x.gather(5, 0, 5);
        x.pass(25);
        Check.due("of one with a cannon and a cloud", 0.0, x.mean());
    }

    private static void digestOfNothing() {
        long d = 1201;
        int[] numbers = {0, 0, 50, 0, 0, 0, 0, 0, 0, 0, 0, 0, 0, 0, 0, 0};
        for (int n : numbers) {
            d = d * 31 + n;
        }
        Check.due("digest() of a new object", d, new HailLeague().digest());
    }

    private static HailLeague full() {
        HailLeague x = new HailLeague();
        for (int i = 0; i < 10; i++) {
            x.plant(29 - 3 * i, 99 - 11 * i, i % 2 == 0, i % 3 == 0);
        }
        for (int i = 0; i < 6; i++) {
            x.cannon(29 - 5 * i, 9 - i, 60 - 12 * i);
        }
        for (int i = 0; i < 20; i++) {
            x.gather(29 - i, 3 - i % 7, 60 - 3 * i);
        }
        return x;
    }

    private static void digestWrapsAround() {
        HailLeague x = full();
        Check.due("digest() when everything is full", byGreatNumbers(x, 10, 6, 20), x.digest());
        x.pass(1);
        Check.due("digest() an hour later", byGreatNumbers(x, 10, 6, 20), x.digest());
        x.pass(95);
        Check.due("digest() when all clouds are gone or empty", byGreatNumbers(x, 10, 6, 20), x.digest());
    }

    private static void digestOfOneKindAlone() {
        HailLeague x = new HailLeague();
        x.plant(5, 50, true, false);
        Check.due("digest() with a vineyard alone", byGreatNumbers(x, 1, 0, 0), x.digest());
        HailLeague y = new HailLeague();
        y.cannon(5, 4, 3);
        Check.due("digest() with a cannon alone", byGreatNumbers(y, 0, 1, 0), y.digest());
        HailLeague z = new HailLeague();
        z.gather(29, 3, 60);
        Check.due("digest() with a cloud alone", byGreatNumbers(z, 0, 0, 1), z.digest());
        z.pass(1);
        Check.due("digest() with a cloud that is gone", byGreatNumbers(z, 0, 0, 1), z.digest());
    }

    private static void digestBelow0() {
        HailLeague x = new HailLeague();
        x.cannon(5, 4, 3);
        for (int i = 0; i < 30; i++) {
            x.load(0, 60);
        }
        Check.due("coins", -310, x.count(2));
        Check.due("digest() with coins below 0", byGreatNumbers(x, 0, 1, 0), x.digest());
    }

    private static void digestOfWinds() {
        HailLeague x = new HailLeague();
        int[] winds = {-2, 2, 0, 1, -1, 2};
        for (int hour = 0; hour < 6; hour++) {
            x.setWind(hour, winds[hour]);
        }
        Check.due("digest() with the least and the greatest wind", byGreatNumbers(x, winds, 0, 0, 0), x.digest());
        x.pass(7);
        Check.due("digest() in another hour", byGreatNumbers(x, winds, 0, 0, 0), x.digest());
    }

    private static long byGreatNumbers(HailLeague x, int vineyards, int cannons, int clouds) {
        return byGreatNumbers(x, new int[6], vineyards, cannons, clouds);
    }

    /** The digest of what is answered, with numbers that never wrap, cut to 64 bits at the very end. */
    private static long byGreatNumbers(HailLeague x, int[] winds, int vineyards, int cannons, int clouds) {
        List<Integer> numbers = new ArrayList<>();
        for (int what = 0; what < 10; what++) {
            numbers.add(x.count(what));
        }
        for (int wind : winds) {
            numbers.add(wind);
        }
        for (int i = 0; i < vineyards; i++) {
            for (int what = 0; what < 7; what++) {
                numbers.add(x.vineyard(i, what));
            }
        }
        for (int i = 0; i < cannons; i++) {
            for (int what = 0; what < 5; what++) {
                numbers.add(x.about(i, what));
            }
        }
        for (int i = 0; i < clouds; i++) {
            for (int what = 0; what < 4; what++) {
                numbers.add(x.cloud(i, what));
            }
        }
        BigInteger d = BigInteger.valueOf(1201);
        for (int n : numbers) {
            d = d.multiply(BigInteger.valueOf(31)).add(BigInteger.valueOf(n));
        }
        return d.longValue();
    }
}
