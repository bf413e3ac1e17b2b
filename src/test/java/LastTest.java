/** Promises 16 to 18: move, mean, digest. */
public final class LastTest {
    public static void main(String[] args) {
        move();
        mean();
        digestOfNothing();
        digestByHand();
        digestOfMuch();
        Check.end();
    }

    private static void move() {
        HailLeague x = new HailLeague();
        Check.outOfBounds("16: move(0, 5) of none", x, () -> x.move(0, 5));
        x.cannon(3, 4, 5);
        x.cannon(7, 8, 9);
        for (int i : new int[] {-1, 2, 6, Integer.MIN_VALUE, Integer.MAX_VALUE}) {
            Check.outOfBounds("16: move(" + i + ", 5)", x, () -> x.move(i, 5));
            Check.outOfBounds("16: move(" + i + ", 30)", x, () -> x.move(i, 30));
        }
        for (int place : new int[] {-1, 30, Integer.MIN_VALUE, Integer.MAX_VALUE}) {
            Check.illegalArgument("16: move(0, " + place + ")", x, () -> x.move(0, place));
        }
        Check.due("16: move(0, 29)", 3, x.move(0, 29));
        Check.due("16: coins", 48, x.count(2));
        Check.due("16: its place", 29, x.about(0, 0));
        Check.due("16: its range", 4, x.about(0, 1));
        Check.due("16: its powder", 5, x.about(0, 2));
        Check.due("16: the other's place", 7, x.about(1, 0));
        Check.due("16: move(0, 29) again", 29, x.move(0, 29));
        Check.due("16: coins again", 46, x.count(2));
        for (int i = 0; i < 24; i++) {
            x.move(1, i % 2 == 0 ? 0 : 29);
        }
        Check.due("16: coins below 0", -2, x.count(2));
        Check.due("16: the hour", 0, x.count(0));
    }

    private static void mean() {
        HailLeague x = new HailLeague();
        Check.due("17: mean() of none", 0.0, x.mean());
        x.plant(1, 0, true, true);
        Check.due("17: mean() of 0", 0.0, x.mean());
        x.plant(1, 99, true, true);
        Check.due("17: mean() of 0 and 99", 49.5, x.mean());
        x.plant(1, 1, true, true);
        Check.due("17: mean() of 100 in three", 100.0 / 3.0, x.mean());
        x.plant(1, 99, true, true);
        Check.due("17: mean() of 199 in four", 49.75, x.mean());
        x.pass(24);
        Check.due("17: mean() a day later", 50.0, x.mean());
    }

    private static void digestOfNothing() {
        long d = 1201;
        int[] numbers = {0, 0, 50, 0, 0, 0, 0, 0, 0, 0, 0, 0, 0, 0, 0, 0};
        for (int x : numbers) {
            d = d * 31 + x;
        }
        Check.due("18: digest() of a new object", d, new HailLeague().digest());
    }

    private static void digestByHand() {
        HailLeague x = new HailLeague();
        x.plant(5, 50, false, true);
        x.plant(8, 9, true, false);
        x.cannon(6, 2, 2);
        x.gather(5, 0, 9);
        x.gather(29, 1, 60);
        x.setWind(1, -2);
        x.setWind(5, 1);
        x.pass(1);
        int[] numbers = {
            1, 1, 50, 51, 8, 1, 1, 1, 1, 1,
            0, -2, 0, 0, 0, 1,
            5, 42, 0, 1, 8, 1, 8,
            8, 9, 1, 0, 0, 0, 0,
            6, 2, 1, 1, 0,
            5, 0, 3, 0,
            30, 1, 60, 1,
        };
        long d = 1201;
        for (int n : numbers) {
            d = d * 31 + n;
        }
        Check.due("18: digest()", d, x.digest());
        Check.due("18: digest() again", d, x.digest());
    }

    private static void digestOfMuch() {
        HailLeague x = new HailLeague();
        int[] winds = {1, -1, 0, 2, -2, 1};
        for (int i = 0; i < 6; i++) {
            x.setWind(i, winds[i]);
            x.cannon(5 * i, i + 1, 10 * i);
        }
        for (int i = 0; i < 10; i++) {
            x.plant(3 * i, 10 * i, i % 2 == 0, i % 3 == 0);
        }
        for (int i = 0; i < 20; i++) {
            x.gather(i, i % 7 - 3, 3 * i);
        }
        for (int day = 0; day < 5; day++) {
            Check.due("18: digest() of day " + day, fromAnswers(x, winds), x.digest());
            x.pass(7);
        }
    }

    private static long fromAnswers(HailLeague x, int[] winds) {
        long d = 1201;
        for (int what = 0; what < 10; what++) {
            d = d * 31 + x.count(what);
        }
        for (int wind : winds) {
            d = d * 31 + wind;
        }
        for (int i = 0; i < 10; i++) {
            for (int what = 0; what < 7; what++) {
                d = d * 31 + x.vineyard(i, what);
            }
        }
        for (int i = 0; i < 6; i++) {
            for (int what = 0; what < 5; what++) {
                d = d * 31 + x.about(i, what);
            }
        }
        for (int i = 0; i < 20; i++) {
            for (int what = 0; what < 4; what++) {
                d = d * 31 + x.cloud(i, what);
            }
        }
        return d;
    }
}
