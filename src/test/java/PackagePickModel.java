import java.util.ArrayList;
import java.util.Arrays;
import java.util.List;
import java.util.NoSuchElementException;
import java.util.Random;

/**
 * Long runs of calls, the same ones each time, on PackagePick and on a model that tries every
 * assignment of versions by the words of the document. Every answer has to be the same.
 */
public final class PackagePickModel {
    private static final int RUNS = 250;
    private static final int CALLS = 512;
    private static int wrong = 0;

    public static void main(String[] args) {
        int[] tally = new int[3];
        for (int run = 0; run < RUNS && wrong == 0; run++) {
            oneRun(run, tally);
        }
        // Runs that never meet one of these outcomes would test little.
        if (tally[0] < 1000 || tally[1] < 1000 || tally[2] < 300) {
            wrong++;
            System.out.println("the runs are too poor: " + Arrays.toString(tally));
        }
        System.out.println(wrong == 0 ? "the model agrees, " + Arrays.toString(tally) : wrong + " answers differ");
        if (wrong != 0) {
            System.exit(1);
        }
    }

    private static void oneRun(int run, int[] tally) {
        Random random = new Random(run);
        PackagePick x = new PackagePick();
        Model m = new Model();
        int packages = 3 + random.nextInt(5);
        int changes = 30 + random.nextInt(60);
        List<String> told = new ArrayList<>();
        for (int call = 0; call < CALLS; call++) {
            int kind = random.nextInt(100) < changes ? random.nextInt(8) : 8 + random.nextInt(6);
            int[] args = {pick(random, packages), pick(random, 4), pick(random, packages), pick(random, 4), pick(random, 4)};
            if (random.nextInt(4) != 0 && args[3] > args[4]) {
                int a = args[3];
                args[3] = args[4];
                args[4] = a;
            }
            String got = onProgram(x, kind, args);
            String want = onModel(m, kind, args);
            told.add(kind + Arrays.toString(args) + " -> " + got);
            if (kind == 8 && want.equals("state")) {
                tally[m.core.length > 1 ? 2 : 1]++;
            } else if (kind == 8 && !want.equals("0") && !want.equals("argument")) {
                tally[0]++;
            }
            if (!got.equals(want)) {
                wrong++;
                System.out.println("run " + run + ": " + told + ", due is " + want);
                return;
            }
        }
    }

    private static int pick(Random random, int bound) {
        int odd = random.nextInt(200);
        if (odd == 0) {
            return random.nextInt();
        }
        return odd < 4 ? random.nextInt(bound + 2) - 1 : random.nextInt(bound);
    }

    private static String onProgram(PackagePick x, int kind, int[] n) {
        try {
            switch (kind) {
                case 0: case 6: return "" + x.version(n[0], n[1]);
                case 1: case 7: return "" + x.need(n[0], n[1], n[2], n[3], n[4]);
                case 2: return n[4] == 0 ? "" + x.drop(n[0], n[1]) : "" + x.version(n[0], n[1]);
                case 3: return n[4] == 0 ? "" + x.ban(n[0], n[1], n[2], n[3]) : "" + x.version(n[0], n[1]);
                case 4: return "" + x.ask(n[2], n[3], n[4]);
                case 5: return "" + x.take(n[0]);
                case 8: return "" + x.solve(n[1]);
                case 9: return "" + x.keep();
                case 10: return "" + x.chosen(n[0]);
                case 11: return n[0] == 0 ? "" + x.many() : "" + x.count(n[0]);
                case 12: return "" + x.can(n[0]);
                default: return "" + x.core(n[1]);
            }
        } catch (IllegalArgumentException e) {
            return "argument";
        } catch (IllegalStateException e) {
            return "state";
        } catch (NoSuchElementException e) {
            return "element";
        }
    }

    private static String onModel(Model m, int kind, int[] n) {
        switch (kind) {
            case 0: case 6: return "" + m.version(n[0], n[1]);
            case 1: case 7: return "" + m.need(n[0], n[1], n[2], n[3], n[4]);
            case 2: return n[4] == 0 ? "" + m.drop(n[0], n[1]) : "" + m.version(n[0], n[1]);
            case 3: return n[4] == 0 ? "" + m.ban(n[0], n[1], n[2], n[3]) : "" + m.version(n[0], n[1]);
            case 4: return "" + m.ask(n[2], n[3], n[4]);
            case 5: return "" + m.take(n[0]);
            case 8: return m.solve(n[1]);
            case 9: return "" + m.keep();
            case 10: return "" + (n[0] < 0 || n[0] > 6 ? -1 : m.told[n[0]]);
            case 11: return n[0] == 0 ? "" + m.choices(m.asked).size() : "" + m.count(n[0]);
            case 12: return "" + m.can(n[0]);
            default: return n[1] < 0 || n[1] >= m.core.length ? "element" : "" + m.core[n[1]];
        }
    }

    private static final class Model {
        final List<List<List<int[]>>> needs = new ArrayList<>();
        final List<int[]> bans = new ArrayList<>();
        final List<int[]> asked = new ArrayList<>();
        int[] told = {-1, -1, -1, -1, -1, -1, -1};
        int[] kept = told;
        int[] core = {};

        Model() {
            for (int p = 0; p < 7; p++) {
                needs.add(new ArrayList<>(Arrays.asList(null, null, null, null)));
            }
        }

        static boolean isVersion(int p, int v) {
            return 0 <= p && p <= 6 && 0 <= v && v <= 3;
        }

        static boolean isNeed(int q, int a, int b) {
            return isVersion(q, a) && isVersion(q, b) && a <= b;
        }

        boolean there(int p, int v) {
            return isVersion(p, v) && needs.get(p).get(v) != null;
        }

        boolean version(int p, int v) {
            if (!isVersion(p, v) || there(p, v)) {
                return false;
            }
            needs.get(p).set(v, new ArrayList<>());
            return true;
        }

        boolean need(int p, int v, int q, int a, int b) {
            if (!there(p, v) || needs.get(p).get(v).size() == 4 || !isNeed(q, a, b)) {
                return false;
            }
            return needs.get(p).get(v).add(new int[] {q, a, b});
        }

        boolean drop(int p, int v) {
            if (!there(p, v)) {
                return false;
            }
            needs.get(p).set(v, null);
            return true;
        }

        boolean ban(int p, int v, int q, int w) {
            if (!isVersion(p, v) || !isVersion(q, w) || p == q || bans.size() == 16) {
                return false;
            }
            return bans.add(new int[] {p, v, q, w});
        }

        boolean ask(int q, int a, int b) {
            return isNeed(q, a, b) && asked.size() < 6 && asked.add(new int[] {q, a, b});
        }

        boolean take(int i) {
            if (i < 0 || i >= asked.size()) {
                return false;
            }
            asked.remove(i);
            return true;
        }

        String solve(int aim) {
            if (aim < 0 || aim > 2) {
                return "argument";
            }
            List<int[]> all = choices(asked);
            if (all.isEmpty()) {
                core = findCore();
                return "state";
            }
            int[] best = null;
            for (int[] c : all) {
                if (best == null || better(aim, c, best)) {
                    best = c;
                }
            }
            told = best;
            return "" + size(told);
        }

        boolean better(int aim, int[] c, int[] d) {
            int one = aim == 0 ? 0 : aim == 1 ? size(c) : differing(c, kept);
            int two = aim == 0 ? 0 : aim == 1 ? size(d) : differing(d, kept);
            return one != two ? one < two : Arrays.compare(c, d) > 0;
        }

        int[] findCore() {
            int[] best = null;
            for (int set = 0; set < 1 << asked.size(); set++) {
                List<int[]> part = new ArrayList<>();
                int[] numbers = new int[Integer.bitCount(set)];
                for (int i = 0; i < asked.size(); i++) {
                    if ((set >> i & 1) == 1) {
                        numbers[part.size()] = i;
                        part.add(asked.get(i));
                    }
                }
                boolean fewer = best == null || numbers.length < best.length
                    || numbers.length == best.length && Arrays.compare(numbers, best) < 0;
                if (fewer && choices(part).isEmpty()) {
                    best = numbers;
                }
            }
            return best;
        }

        int keep() {
            int changes = differing(told, kept);
            kept = told;
            return changes;
        }

        int can(int p) {
            if (p < 0 || p > 6) {
                return -1;
            }
            int bits = 0;
            for (int[] c : choices(asked)) {
                bits |= c[p] < 0 ? 16 : 1 << c[p];
            }
            return bits;
        }

        int count(int what) {
            int versions = 0;
            int all = 0;
            for (List<List<int[]>> p : needs) {
                for (List<int[]> v : p) {
                    versions += v == null ? 0 : 1;
                    all += v == null ? 0 : v.size();
                }
            }
            int[] answers = {versions, all, bans.size(), asked.size(), size(told), size(kept), differing(told, kept)};
            return what < 0 || what > 6 ? -1 : answers[what];
        }

        static int size(int[] c) {
            int size = 0;
            for (int v : c) {
                size += v < 0 ? 0 : 1;
            }
            return size;
        }

        static int differing(int[] c, int[] d) {
            int differing = 0;
            for (int p = 0; p < 7; p++) {
                differing += c[p] == d[p] ? 0 : 1;
            }
            return differing;
        }

        List<int[]> choices(List<int[]> wishes) {
            List<int[]> all = new ArrayList<>();
            assign(wishes, new int[7], 0, all);
            return all;
        }

        /** Every assignment of versions that are there, each one looked at when it is whole. */
        void assign(List<int[]> wishes, int[] c, int p, List<int[]> all) {
            if (p == 7) {
                if (isChoice(wishes, c)) {
                    all.add(c.clone());
                }
                return;
            }
            for (int v = -1; v < 4; v++) {
                if (v < 0 || there(p, v)) {
                    c[p] = v;
                    assign(wishes, c, p + 1, all);
                }
            }
        }

        boolean isChoice(List<int[]> wishes, int[] c) {
            if (!met(wishes, c)) {
                return false;
            }
            for (int p = 0; p < 7; p++) {
                if (c[p] >= 0 && !met(needs.get(p).get(c[p]), c)) {
                    return false;
                }
            }
            for (int[] ban : bans) {
                if (c[ban[0]] == ban[1] && c[ban[2]] == ban[3]) {
                    return false;
                }
            }
            return noneForNothing(wishes, c);
        }

        static boolean met(List<int[]> list, int[] c) {
            for (int[] need : list) {
                if (c[need[0]] < need[1] || c[need[0]] > need[2]) {
                    return false;
                }
            }
            return true;
        }

        boolean noneForNothing(List<int[]> wishes, int[] c) {
            boolean[] reached = new boolean[7];
            for (int[] wish : wishes) {
                reached[wish[0]] = true;
            }
            for (int round = 0; round < 7; round++) {
                for (int p = 0; p < 7; p++) {
                    if (reached[p] && c[p] >= 0) {
                        for (int[] need : needs.get(p).get(c[p])) {
                            reached[need[0]] = true;
                        }
                    }
                }
            }
            for (int p = 0; p < 7; p++) {
                if (c[p] >= 0 && !reached[p]) {
                    return false;
                }
            }
            return true;
        }
    }
}
