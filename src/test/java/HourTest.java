/** Promise 12: pass, and with it how an hour goes. */
public final class HourTest {
    public static void main(String[] args) {
        wrongHours();
        stepsInTheirOrder();
        shotsByDistance();
        cannonsOneAfterAnother();
        goneCloudsDoNothing();
        suits();
        hailUponVines();
        endOfDay();
        lastHourCountsForItsDay();
        severalDays();
        Check.end();
    }

    private static void wrongHours() {
        HailLeague x = new HailLeague();
        x.plant(5, 50, true, true);
        x.gather(5, 0, 60);
        for (int hours : new int[] {0, 97, -1, Integer.MIN_VALUE, Integer.MAX_VALUE}) {
            Check.illegalArgument("12: pass(" + hours + ")", x, () -> x.pass(hours));
        }
        Check.due("12: pass(1)", 8, x.pass(1));
        Check.due("12: pass(96)", 42, x.pass(96));
        Check.due("12: the hour", 97, x.count(0));
    }

    private static void stepsInTheirOrder() {
        HailLeague x = new HailLeague();
        x.plant(5, 99, true, false);
        x.plant(4, 99, true, false);
        x.cannon(5, 1, 9);
        x.gather(3, 1, 10);
        x.setWind(0, 1);
        // It drifts to 5, is shot at there (2 hail less), and drops 4 there.
        Check.due("12: pass(1)", 8, x.pass(1));
        Check.due("12: cloud(0, 2)", 4, x.cloud(0, 2));
        Check.due("12: vines under it", 91, x.vineyard(0, 1));
        Check.due("12: vines where it came by", 99, x.vineyard(1, 1));
        Check.due("12: the hour", 1, x.count(0));
    }

    private static void shotsByDistance() {
        for (int distance = 0; distance <= 4; distance++) {
            HailLeague x = new HailLeague();
            x.cannon(10, 3, 5);
            x.gather(10 + distance, 0, 60);
            x.pass(1);
            int less = distance <= 3 ? 4 - distance : 0;
            int shots = distance <= 3 ? 1 : 0;
            Check.due("12: hail of a cloud " + distance + " away", 60 - less - 4, x.cloud(0, 2));
            Check.due("12: powder for a cloud " + distance + " away", 5 - shots, x.about(0, 2));
            Check.due("12: shots at a cloud " + distance + " away", shots, x.about(0, 3));
        }
        HailLeague y = new HailLeague();
        y.plant(3, 50, true, false);
        y.cannon(3, 9, 5);
        y.gather(3, 0, 6);
        Check.due("12: a cloud shot empty drops none", 0, y.pass(1));
        Check.due("12: its hail", 0, y.cloud(0, 2));
        y.pass(1);
        Check.due("12: an empty cloud is not shot at", 1, y.about(0, 3));
    }

    private static void cannonsOneAfterAnother() {
        HailLeague x = new HailLeague();
        x.cannon(10, 4, 60);
        x.cannon(11, 4, 60);
        x.cannon(12, 4, 0);
        x.gather(14, 0, 30);
        x.gather(10, 0, 5);
        x.pass(1);
        // The first empties cloud 1, so the second shoots at cloud 0.
        Check.due("12: cloud(1, 2)", 0, x.cloud(1, 2));
        Check.due("12: cloud(0, 2)", 24, x.cloud(0, 2));
        Check.due("12: shots of cannon 0", 1, x.about(0, 3));
        Check.due("12: shots of cannon 1", 1, x.about(1, 3));
        Check.due("12: shots without powder", 0, x.about(2, 3));
        Check.due("12: no powder below 0", 0, x.about(2, 2));
    }

    private static void goneCloudsDoNothing() {
        HailLeague x = new HailLeague();
        x.plant(0, 50, true, false);
        x.gather(0, -1, 60);
        x.gather(29, 1, 60);
        x.gather(0, 0, 0);
        for (int hour = 1; hour < 6; hour++) {
            x.setWind(hour, 2);
        }
        Check.due("12: a cloud that drifts away", 0, x.pass(1));
        Check.due("12: clouds there", 1, x.count(8));
        Check.due("12: it never comes back", 0, x.pass(3));
        Check.due("12: cloud(0, 0)", -1, x.cloud(0, 0));
        Check.due("12: cloud(1, 0)", 30, x.cloud(1, 0));
        Check.due("12: cloud(2, 0)", 6, x.cloud(2, 0));
        Check.due("12: cloud(0, 2)", 60, x.cloud(0, 2));
    }

    private static void suits() {
        HailLeague x = new HailLeague();
        int[] places = {7, 8, 10, 12, 13, 10};
        int[] due = {0, 2, 2, 2, 0, 0};
        for (int i = 0; i < 6; i++) {
            x.plant(places[i], 0, i == 5, false);
        }
        x.cannon(10, 9, 2);
        x.pass(1);
        Check.due("12: suits without a shot", 0, x.count(5));
        x.gather(10, 0, 60);
        x.pass(4);
        for (int i = 0; i < 6; i++) {
            Check.due("12: suits of vineyard " + i, due[i], x.vineyard(i, 5));
        }
        Check.due("12: coins before the day's end", 50, x.count(2));
        x.pass(19);
        Check.due("12: coins behind it", 44, x.count(2));
        Check.due("12: suits behind it", 0, x.count(5));
    }

    private static void hailUponVines() {
        HailLeague x = new HailLeague();
        x.plant(5, 99, true, false);
        x.plant(5, 7, true, false);
        x.plant(6, 50, true, false);
        x.gather(5, 0, 3);
        Check.due("12: 3 hail upon two vineyards", 12, x.pass(1));
        Check.due("12: vines of the first", 93, x.vineyard(0, 1));
        Check.due("12: vines of the second", 1, x.vineyard(1, 1));
        Check.due("12: vines beside", 50, x.vineyard(2, 1));
        x.gather(5, 0, 9);
        x.gather(5, 0, 4);
        Check.due("12: two clouds, and one vine on the second", 17, x.pass(1));
        Check.due("12: the first's then", 77, x.vineyard(0, 1));
        Check.due("12: the second's then", 0, x.vineyard(1, 1));
        Check.due("12: the second's loss", 7, x.vineyard(1, 6));
        Check.due("12: hail left", 5, x.cloud(1, 2));
    }

    private static void endOfDay() {
        HailLeague x = new HailLeague();
        x.plant(1, 0, true, true);
        x.plant(2, 1, true, false);
        x.plant(3, 98, true, true);
        x.plant(4, 99, true, false);
        x.plant(5, 7, true, true);
        x.plant(6, 60, true, false);
        x.plant(7, 60, true, true);
        x.gather(5, 0, 60);
        x.gather(6, 0, 5);
        x.gather(7, 0, 5);
        Check.due("12: pass(23)", 27, x.pass(23));
        Check.due("12: coins before the last hour", 50, x.count(2));
        Check.due("12: vineyard(2, 1) before the last hour", 98, x.vineyard(2, 1));
        Check.due("12: vineyard(4, 4) before the last hour", 7, x.vineyard(4, 4));
        x.pass(1);
        // 4 premiums; of 7 and 10 lost insured vines 3 and 5 are paid.
        Check.due("12: coins behind it", 50 + 4 - 3 - 5, x.count(2));
        int[] vines = {0, 2, 99, 99, 0, 51, 51};
        int[] lost = {0, 0, 0, 0, 7, 10, 10};
        for (int i = 0; i < vines.length; i++) {
            Check.due("12: vineyard(" + i + ", 1) behind it", vines[i], x.vineyard(i, 1));
            Check.due("12: vineyard(" + i + ", 4) behind it", 0, x.vineyard(i, 4));
            Check.due("12: vineyard(" + i + ", 6) behind it", lost[i], x.vineyard(i, 6));
        }
        Check.due("12: count(1)", 0, x.count(1));
    }

    private static void lastHourCountsForItsDay() {
        HailLeague x = new HailLeague();
        x.plant(5, 60, false, true);
        x.plant(6, 3, true, true);
        x.pass(23);
        x.cannon(5, 1, 1);
        x.gather(5, 0, 6);
        x.gather(6, 0, 4);
        Check.due("12: the day's last hour", 11, x.pass(1));
        // 2 premiums, half of 8 and of 3 vines, and a suit.
        Check.due("12: its coins", 50 + 2 - 4 - 1 - 1, x.count(2));
        Check.due("12: vines grow behind the loss", 53, x.vineyard(0, 1));
        Check.due("12: but none where none are", 0, x.vineyard(1, 1));
    }

    private static void severalDays() {
        HailLeague x = new HailLeague();
        x.plant(5, 97, true, true);
        x.plant(6, 0, false, true);
        Check.due("12: pass(96)", 0, x.pass(96));
        Check.due("12: premiums of 4 days", 58, x.count(2));
        Check.due("12: vines of 4 days", 99, x.count(3));
        x.sign(0, true, false);
        x.pass(24);
        Check.due("12: one premium less", 59, x.count(2));
        x.gather(6, 0, 60);
        x.gather(5, 0, 60);
        x.pass(12);
        x.sign(0, true, true);
        x.sign(1, true, false);
        x.pass(12);
        // Who is insured when the day ends is paid for all of the day.
        Check.due("12: coins behind it", 59 + 1 - 49, x.count(2));
    }
}
