import java.util.ArrayList;
import java.util.List;

/** All promises: long runs of calls, each answered as a model written from the document alone answers it. */
public final class ModelTest {
    private static final int RUNS = 1200;
    // With digest() and mean() behind each, fewer than the 512 that are promised.
    private static final int CALLS = 170;
    private static final int ILLEGAL = -1000001;
    private static final int STATE = -1000002;
    private static final int BOUNDS = -1000003;
    private static final int MACHINE = -1000004;

    private static long seed;

    public static void main(String[] args) {
        for (int run = 0; run < RUNS; run++) {
            seed = 77 * run + 5;
            oneRun(run);
        }
        Check.end();
    }

    private static void oneRun(int run) {
        HailLeague x = new HailLeague();
        Model m = new Model();
        for (int call = 0; call < CALLS; call++) {
            String text = "run " + run + ", call " + call + ", ";
            // In even runs hours go by only when much is there.
            int kind = draw(run % 2 == 0 && call < 60 ? 10 : 17);
            int a = draw(10) == 0 ? draw(140) - 30 : draw(10);
            int b = draw(12) == 0 ? draw(140) - 30 : draw(30);
            int c = draw(12) == 0 ? draw(140) - 30 : draw(61);
            boolean p = draw(2) == 0;
            boolean q = draw(2) == 0;
            Check.due(text + kind + "(" + a + ", " + b + ", " + c + ", " + p + ", " + q + ")",
                    m.answer(kind, a, b, c, p, q), answer(x, kind, a, b, c, p, q));
            Check.due(text + "digest()", m.digest(), x.digest());
            Check.due(text + "mean()", m.mean(), x.mean());
        }
    }

    private static int draw(int bound) {
        seed = seed * 6364136223846793005L + 1442695040888963407L;
        return (int) ((seed >>> 33) % bound);
    }

    private static int answer(HailLeague x, int kind, int a, int b, int c, boolean p, boolean q) {
        try {
            switch (kind) {
                case 0: return x.plant(b, c, p, q);
                case 1: return x.sign(a, p, q);
                case 2: return x.cannon(b, a, c);
                case 3: return x.load(a, c);
                case 4: return x.gather(b, a - 4, c);
                case 5: return x.setWind(a, b % 5 - 2);
                case 6: return x.vineyard(a, b % 8);
                case 7: return x.about(a, b % 6);
                case 8: return x.cloud(b, a % 5);
                case 9: return x.count(a);
                case 10: return x.pass(c % 5);
                case 11: return x.pass(c);
                case 12: return x.hit(a);
                case 13: return x.foresee(c * 2, a);
                case 14: return x.advise(a, b);
                case 15: return x.move(a, b);
                default: return x.gather(b, a - 4, 60 - c / 2);
            }
        } catch (IllegalArgumentException e) {
            return ILLEGAL;
        } catch (IllegalStateException e) {
            return STATE;
        } catch (IndexOutOfBoundsException e) {
            // Its subclasses are the machine's own, and must not come out.
            return e.getClass() == IndexOutOfBoundsException.class ? BOUNDS : MACHINE;
        }
    }

    private static final class Vineyard {
        int place;
        int vines;
        boolean member;
        boolean insured;
        int day;
        int suits;
        int all;

        int[] facts() {
            return new int[] {place, vines, member ? 1 : 0, insured ? 1 : 0, day, suits, all};
        }
    }

    private static final class Gun {
        int place;
        int range;
        int powder;
        int shots;
    }

    private static final class Cloud {
        int place;
        int drift;
        int hail;

        boolean gone() {
            return place < 0 || place > 29;
        }
    }

    /** The document's league, plainly. */
    private static final class Model {
        final List<Vineyard> vineyards = new ArrayList<>();
        final List<Gun> guns = new ArrayList<>();
        final List<Cloud> clouds = new ArrayList<>();
        final int[] wind = new int[6];
        int hour = 0;
        int coins = 50;

        Model copy() {
            Model m = new Model();
            for (Vineyard v : vineyards) {
                Vineyard w = new Vineyard();
                w.place = v.place;
                w.vines = v.vines;
                w.member = v.member;
                w.insured = v.insured;
                w.day = v.day;
                w.suits = v.suits;
                w.all = v.all;
                m.vineyards.add(w);
            }
            for (Gun g : guns) {
                Gun h = new Gun();
                h.place = g.place;
                h.range = g.range;
                h.powder = g.powder;
                h.shots = g.shots;
                m.guns.add(h);
            }
            for (Cloud c : clouds) {
                Cloud d = new Cloud();
                d.place = c.place;
                d.drift = c.drift;
                d.hail = c.hail;
                m.clouds.add(d);
            }
            System.arraycopy(wind, 0, m.wind, 0, 6);
            m.hour = hour;
            m.coins = coins;
            return m;
        }

        static boolean in(int x, int least, int most) {
            return x >= least && x <= most;
        }

        int answer(int kind, int a, int b, int c, boolean p, boolean q) {
            switch (kind) {
                case 0: return plant(b, c, p, q);
                case 1: return sign(a, p, q);
                case 2: return gun(b, a, c);
                case 3: return load(a, c);
                case 4: return gather(b, a - 4, c);
                case 5: return setWind(a, b % 5 - 2);
                case 6: return in(a, 0, vineyards.size() - 1) && in(b % 8, 0, 6)
                        ? vineyards.get(a).facts()[b % 8] : BOUNDS;
                case 7: return in(a, 0, guns.size() - 1) && in(b % 6, 0, 4) ? gunFacts(a)[b % 6] : BOUNDS;
                case 8: return in(b, 0, clouds.size() - 1) && in(a % 5, 0, 3) ? cloudFacts(b)[a % 5] : BOUNDS;
                case 9: return in(a, 0, 9) ? counts()[a] : BOUNDS;
                case 10: return pass(c % 5);
                case 11: return pass(c);
                case 12: return hit(a);
                case 13: return foresee(c * 2, a);
                case 14: return advise(a, b);
                case 15: return move(a, b);
                default: return gather(b, a - 4, 60 - c / 2);
            }
        }

        int plant(int place, int vines, boolean member, boolean insured) {
            if (!in(place, 0, 29) || !in(vines, 0, 99)) {
                return ILLEGAL;
            }
            if (vineyards.size() == 10) {
                return STATE;
            }
            Vineyard v = new Vineyard();
            v.place = place;
            v.vines = vines;
            v.member = member;
            v.insured = insured;
            vineyards.add(v);
            return vineyards.size() - 1;
        }

        int sign(int i, boolean member, boolean insured) {
            if (!in(i, 0, vineyards.size() - 1)) {
                return BOUNDS;
            }
            Vineyard v = vineyards.get(i);
            int before = 0;
            if (v.member) {
                before += 1;
            }
            if (v.insured) {
                before += 2;
            }
            v.member = member;
            v.insured = insured;
            return before;
        }

        int gun(int place, int range, int powder) {
            if (!in(place, 0, 29) || !in(range, 1, 9) || !in(powder, 0, 60)) {
                return ILLEGAL;
            }
            if (guns.size() == 6) {
                return STATE;
            }
            Gun g = new Gun();
            g.place = place;
            g.range = range;
            g.powder = powder;
            guns.add(g);
            return guns.size() - 1;
        }

        int load(int i, int powder) {
            if (!in(i, 0, guns.size() - 1)) {
                return BOUNDS;
            }
            if (!in(powder, 1, 60)) {
                return ILLEGAL;
            }
            coins -= powder / 5;
            Gun g = guns.get(i);
            g.powder += powder;
            if (g.powder > 60) {
                g.powder = 60;
            }
            return g.powder;
        }

        int gather(int place, int drift, int hail) {
            if (!in(place, 0, 29) || !in(drift, -3, 3) || !in(hail, 0, 60)) {
                return ILLEGAL;
            }
            if (clouds.size() == 20) {
                return STATE;
            }
            Cloud c = new Cloud();
            c.place = place;
            c.drift = drift;
            c.hail = hail;
            clouds.add(c);
            return clouds.size() - 1;
        }

        int setWind(int h, int w) {
            if (!in(h, 0, 5)) {
                return BOUNDS;
            }
            if (!in(w, -2, 2)) {
                return ILLEGAL;
            }
            int before = wind[h];
            wind[h] = w;
            return before;
        }

        int[] gunFacts(int i) {
            Gun g = guns.get(i);
            return new int[] {g.place, g.range, g.powder, g.shots, target(g)};
        }

        int[] cloudFacts(int i) {
            Cloud c = clouds.get(i);
            return new int[] {c.place, c.drift, c.hail, c.gone() ? 1 : 0};
        }

        int[] counts() {
            int[] n = {hour, hour % 24, coins, 0, 0, 0, 0, 0, 0, 0};
            for (Vineyard v : vineyards) {
                n[3] += v.vines;
                n[4] += v.all;
                n[5] += v.suits;
                n[6] += v.member ? 1 : 0;
                n[7] += v.insured ? 1 : 0;
            }
            for (Cloud c : clouds) {
                n[8] += c.gone() ? 0 : 1;
            }
            for (Gun g : guns) {
                n[9] += g.shots;
            }
            return n;
        }

        int target(Gun g) {
            for (int distance = 0; g.powder > 0 && distance <= g.range; distance++) {
                for (int i = 0; i < clouds.size(); i++) {
                    Cloud c = clouds.get(i);
                    if (!c.gone() && c.hail > 0
                            && (c.place == g.place + distance || c.place == g.place - distance)) {
                        return i;
                    }
                }
            }
            return -1;
        }

        void hourGoesBy() {
            for (Cloud c : clouds) {
                if (!c.gone()) {
                    c.place += c.drift + wind[hour % 6];
                }
            }
            for (Gun g : guns) {
                int target = target(g);
                if (target != -1) {
                    Cloud c = clouds.get(target);
                    int distance = c.place < g.place ? g.place - c.place : c.place - g.place;
                    c.hail -= g.range + 1 - distance;
                    if (c.hail < 0) {
                        c.hail = 0;
                    }
                    g.powder--;
                    g.shots++;
                    for (Vineyard v : vineyards) {
                        if (!v.member && in(v.place, g.place - 2, g.place + 2)) {
                            v.suits++;
                        }
                    }
                }
            }
            for (Cloud c : clouds) {
                for (int drop = 0; drop < 4 && !c.gone() && c.hail > 0; drop++) {
                    c.hail--;
                    for (Vineyard v : vineyards) {
                        for (int vine = 0; vine < 2 && v.place == c.place && v.vines > 0; vine++) {
                            v.vines--;
                            v.day++;
                            v.all++;
                        }
                    }
                }
            }
            if (hour % 24 == 23) {
                dayEnds();
            }
            hour++;
        }

        void dayEnds() {
            for (Vineyard v : vineyards) {
                if (v.insured) {
                    coins++;
                    coins -= v.day / 2;
                }
                coins -= v.suits;
            }
            for (Vineyard v : vineyards) {
                v.day = 0;
                v.suits = 0;
                if (in(v.vines, 1, 98)) {
                    v.vines++;
                }
            }
        }

        int pass(int hours) {
            if (!in(hours, 1, 96)) {
                return ILLEGAL;
            }
            int before = counts()[4];
            for (int i = 0; i < hours; i++) {
                hourGoesBy();
            }
            return counts()[4] - before;
        }

        int hit(int i) {
            if (!in(i, 0, vineyards.size() - 1)) {
                return BOUNDS;
            }
            Model m = copy();
            for (int hours = 1; hours <= 60; hours++) {
                m.hourGoesBy();
                if (m.vineyards.get(i).all != vineyards.get(i).all) {
                    return hours;
                }
            }
            return -1;
        }

        int foresee(int hours, int what) {
            if (!in(hours, 1, 96)) {
                return ILLEGAL;
            }
            if (!in(what, 2, 5) && what != 8) {
                return BOUNDS;
            }
            Model m = copy();
            m.pass(hours);
            return m.counts()[what];
        }

        int advise(int i, int hours) {
            if (!in(i, 0, guns.size() - 1)) {
                return BOUNDS;
            }
            if (!in(hours, 1, 36)) {
                return ILLEGAL;
            }
            int best = -1;
            int fewest = copy().pass(hours);
            for (int place = 0; place < 30; place++) {
                Model m = copy();
                m.guns.get(i).place = place;
                int lost = m.pass(hours);
                if (lost < fewest) {
                    best = place;
                    fewest = lost;
                }
            }
            return best;
        }

        int move(int i, int place) {
            if (!in(i, 0, guns.size() - 1)) {
                return BOUNDS;
            }
            if (!in(place, 0, 29)) {
                return ILLEGAL;
            }
            int before = guns.get(i).place;
            guns.get(i).place = place;
            coins -= 2;
            return before;
        }

        double mean() {
            return vineyards.isEmpty() ? 0.0 : counts()[3] / (double) vineyards.size();
        }

        long digest() {
            List<int[]> rows = new ArrayList<>();
            rows.add(counts());
            rows.add(wind);
            for (Vineyard v : vineyards) {
                rows.add(v.facts());
            }
            for (int i = 0; i < guns.size(); i++) {
                rows.add(gunFacts(i));
            }
            for (int i = 0; i < clouds.size(); i++) {
                rows.add(cloudFacts(i));
            }
            long d = 1201;
            for (int[] row : rows) {
                for (int n : row) {
                    d = d * 31 + n;
                }
            }
            return d;
        }
    }
}
