/** Promises 8 to 11: vineyard, about, cloud, count. */
public final class ReadTest {
    public static void main(String[] args) {
        wrongNumbers();
        vineyard();
        aboutItsTarget();
        aboutItsFacts();
        cloud();
        count();
        Check.end();
    }

    private static HailLeague oneOfEach() {
        HailLeague x = new HailLeague();
        x.plant(5, 50, true, false);
        x.cannon(5, 2, 3);
        x.gather(5, 0, 9);
        return x;
    }

    private static void wrongNumbers() {
        HailLeague x = oneOfEach();
        for (int i : new int[] {-1, 1, 9, 10, 20, Integer.MIN_VALUE, Integer.MAX_VALUE}) {
            Check.outOfBounds("8: vineyard(" + i + ", 0)", x, () -> x.vineyard(i, 0));
            Check.outOfBounds("9: about(" + i + ", 0)", x, () -> x.about(i, 0));
            Check.outOfBounds("10: cloud(" + i + ", 0)", x, () -> x.cloud(i, 0));
        }
        for (int what : new int[] {-1, 7, Integer.MIN_VALUE, Integer.MAX_VALUE}) {
            Check.outOfBounds("8: vineyard(0, " + what + ")", x, () -> x.vineyard(0, what));
        }
        for (int what : new int[] {-1, 5, Integer.MIN_VALUE, Integer.MAX_VALUE}) {
            Check.outOfBounds("9: about(0, " + what + ")", x, () -> x.about(0, what));
        }
        for (int what : new int[] {-1, 4, Integer.MIN_VALUE, Integer.MAX_VALUE}) {
            Check.outOfBounds("10: cloud(0, " + what + ")", x, () -> x.cloud(0, what));
        }
        for (int what : new int[] {-1, 10, Integer.MIN_VALUE, Integer.MAX_VALUE}) {
            Check.outOfBounds("11: count(" + what + ")", x, () -> x.count(what));
        }
    }

    private static void vineyard() {
        HailLeague x = new HailLeague();
        x.plant(5, 50, false, true);
        x.cannon(6, 2, 1);
        x.gather(5, 0, 9);
        x.pass(1);
        // The shot takes 2 hail of 9, and 4 of the other 7 are dropped.
        int[] facts = {5, 42, 0, 1, 8, 1, 8};
        for (int what = 0; what < 7; what++) {
            Check.due("8: vineyard(0, " + what + ")", facts[what], x.vineyard(0, what));
        }
        x.pass(23);
        // The last 3 hail cost 6 vines; a vine has grown since.
        int[] factsThen = {5, 37, 0, 1, 0, 0, 14};
        for (int what = 0; what < 7; what++) {
            Check.due("8: vineyard(0, " + what + ") on the next day", factsThen[what], x.vineyard(0, what));
        }
    }

    private static void aboutItsTarget() {
        HailLeague x = new HailLeague();
        x.cannon(10, 3, 1);
        Check.due("9: without clouds", -1, x.about(0, 4));
        x.gather(14, 0, 9);
        Check.due("9: a cloud 4 away, range 3", -1, x.about(0, 4));
        x.gather(10, 0, 0);
        Check.due("9: a cloud without hail", -1, x.about(0, 4));
        x.gather(13, 0, 9);
        Check.due("9: a cloud 3 away, range 3", 2, x.about(0, 4));
        x.gather(7, 0, 9);
        Check.due("9: as near on the other side", 2, x.about(0, 4));
        x.gather(8, 0, 1);
        Check.due("9: a nearer one", 4, x.about(0, 4));
        x.gather(12, 0, 60);
        Check.due("9: as near, greater number", 4, x.about(0, 4));
        x.cannon(10, 9, 0);
        Check.due("9: without powder", -1, x.about(1, 4));
        x.load(1, 1);
        Check.due("9: with powder", 4, x.about(1, 4));
        x.move(0, 29);
        Check.due("9: moved away", -1, x.about(0, 4));

        HailLeague y = new HailLeague();
        y.cannon(29, 9, 9);
        y.gather(28, 2, 50);
        y.pass(1);
        Check.due("9: a cloud that is gone", -1, y.about(0, 4));
        Check.due("9: its shots", 0, y.about(0, 3));
    }

    private static void aboutItsFacts() {
        HailLeague x = new HailLeague();
        x.cannon(10, 3, 2);
        x.gather(10, 0, 60);
        x.pass(1);
        int[] facts = {10, 3, 1, 1, 0};
        for (int what = 0; what < 5; what++) {
            Check.due("9: about(0, " + what + ")", facts[what], x.about(0, what));
        }
        x.pass(5);
        int[] factsThen = {10, 3, 0, 2, -1};
        for (int what = 0; what < 5; what++) {
            Check.due("9: about(0, " + what + ") then", factsThen[what], x.about(0, what));
        }
    }

    private static void cloud() {
        HailLeague x = new HailLeague();
        x.gather(1, -3, 60);
        x.gather(29, 3, 7);
        x.gather(0, 0, 5);
        x.gather(29, 0, 60);
        x.setWind(1, 2);
        x.pass(1);
        int[][] facts = {{-2, -3, 60, 1}, {32, 3, 7, 1}, {0, 0, 1, 0}, {29, 0, 56, 0}};
        for (int i = 0; i < 4; i++) {
            for (int what = 0; what < 4; what++) {
                Check.due("10: cloud(" + i + ", " + what + ")", facts[i][what], x.cloud(i, what));
            }
        }
        x.pass(1);
        int[][] factsThen = {{-2, -3, 60, 1}, {32, 3, 7, 1}, {2, 0, 0, 0}, {31, 0, 56, 1}};
        for (int i = 0; i < 4; i++) {
            for (int what = 0; what < 4; what++) {
                Check.due("10: cloud(" + i + ", " + what + ") then", factsThen[i][what], x.cloud(i, what));
            }
        }
    }

    private static void count() {
        HailLeague x = new HailLeague();
        x.plant(5, 50, true, true);
        x.plant(6, 20, false, true);
        x.plant(7, 9, true, true);
        x.plant(8, 3, false, false);
        x.plant(20, 99, true, false);
        x.cannon(7, 1, 1);
        x.cannon(19, 1, 60);
        x.gather(5, 0, 4);
        x.gather(8, 0, 2);
        x.gather(0, -1, 60);
        x.gather(20, 0, 60);
        x.load(0, 20);
        x.pass(2);
        // In the first hour the cloud over 5 costs 8 vines, cannon 0 takes 1 of
        // the 2 hail over 8 (whose other 1 costs 2 vines), and has two suits;
        // cannon 1 shoots in both hours, and the cloud over 20 costs 16 vines.
        int[] counts = {2, 2, 46, 155, 26, 2, 3, 3, 3, 3};
        for (int what = 0; what < 10; what++) {
            Check.due("11: count(" + what + ")", counts[what], x.count(what));
        }
        x.pass(24);
        Check.due("11: count(0) a day later", 26, x.count(0));
        Check.due("11: count(1) a day later", 2, x.count(1));
        Check.due("11: count(5) a day later", 0, x.count(5));
    }
}
