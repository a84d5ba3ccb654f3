import java.util.ArrayDeque;
import java.util.Arrays;
import java.util.HashMap;
import java.util.Map;

/** Promises 30 to 33: home. */
public final class HomeTest {
    public static void main(String[] args) {
        home();
        fewest();
        homeBow();
        atHome();
        since();
        Due.end("HomeTest");
    }

    private static void bar(MaskBows x) {
        x.says(0, 0, 1, true);
        x.let(1, true);
    }

    private static void home() {
        MaskBows x = new MaskBows();
        x.people(5);
        Due.is("30: all are home", 0, x.home());
        x.bow(1, 0, 1, 10);
        Due.is("30: one ring of two", 1, x.home());
        x.bow(2, 2, 3, 10);
        Due.is("30: two rings of two", 2, x.home());
        x.bow(3, 1, 2, 10);
        Due.is("30: a ring of four", 3, x.home());
        x.bow(4, 1, 2, 6);
        Due.is("30: in the likeliest night", 2, x.home());
        x.doubt(3, 5);
        Due.is("30: of several the least", 3, x.home());
        x.bow(99, 0, 4, 10);
        Due.is("30: behind all, hour 99 too", 4, x.home());
        bar(x);
        Due.is("30: none holds", Due.NONE, x.home());
    }

    /** All orders of five masks, by a search over bows. */
    private static void fewest() {
        Map<String, Integer> steps = new HashMap<>();
        Map<String, int[]> paths = new HashMap<>();
        ArrayDeque<int[]> queue = new ArrayDeque<>();
        int[] start = {0, 1, 2, 3, 4};
        queue.add(start);
        steps.put(Arrays.toString(start), 0);
        paths.put(Arrays.toString(start), new int[0]);
        while (!queue.isEmpty()) {
            int[] row = queue.remove();
            String from = Arrays.toString(row);
            for (int one = 0; one < 5; one++) {
                for (int other = one + 1; other < 5; other++) {
                    int[] next = row.clone();
                    next[one] = row[other];
                    next[other] = row[one];
                    String to = Arrays.toString(next);
                    if (steps.putIfAbsent(to, steps.get(from) + 1) == null) {
                        int[] path = Arrays.copyOf(paths.get(from), paths.get(from).length + 1);
                        path[path.length - 1] = 10 * one + other;
                        paths.put(to, path);
                        queue.add(next);
                    }
                }
            }
        }
        Due.is("30: orders of five", 120, steps.size());
        for (String order : steps.keySet()) {
            MaskBows x = new MaskBows();
            x.people(5);
            for (int bow : paths.get(order)) {
                x.bow(0, bow / 10, bow % 10, 10);
            }
            Due.is("30: from " + order, steps.get(order), x.home());
            bringHome(x, order);
        }
    }

    private static void bringHome(MaskBows x, String order) {
        int[] bows = new int[x.home()];
        for (int i = 0; i < bows.length; i++) {
            bows[i] = x.homeBow(i);
        }
        for (int bow : bows) {
            x.bow(99, bow / 10, bow % 10, 10);
        }
        Due.is("31: brought home from " + order, 31, x.atHome(99));
    }

    private static void homeBow() {
        MaskBows x = new MaskBows();
        x.people(8);
        x.bow(0, 0, 3, 10);
        x.bow(1, 3, 7, 10);
        x.bow(2, 5, 6, 10);
        // Mask 0: 3, mask 3: 7, mask 7: 0, masks 5 and 6 changed.
        Due.is("31: mask 0 bows to the one that 0 wears", 7, x.homeBow(0));
        Due.is("31: then mask 3", 37, x.homeBow(1));
        Due.is("31: then mask 5", 56, x.homeBow(2));
        Due.is("31: not so many", Due.NONE, x.homeBow(3));
        Due.is("31: by far not so many", Due.NONE, x.homeBow(Integer.MAX_VALUE));
        Due.is("31: i -1", Due.BEYOND, x.homeBow(-1));
        bar(x);
        Due.is("31: BEYOND ahead of NONE", Due.BEYOND, x.homeBow(-1));
        Due.is("31: none holds", Due.NONE, x.homeBow(0));
    }

    private static void atHome() {
        MaskBows x = new MaskBows();
        x.bow(5, 0, 1, 6);
        x.bow(7, 1, 2, 4);
        Due.is("32: hour 4", 15, x.atHome(4));
        Due.is("32: hour 5", 12, x.atHome(5));
        Due.is("32: hour 99", 12, x.atHome(99));
        Due.is("32: hour -1", Due.BEYOND, x.atHome(-1));
        Due.is("32: hour 100", Due.BEYOND, x.atHome(100));
        x.doubt(1, 6);
        Due.is("32: hour 99 by the likeliest", 8, x.atHome(99));
        bar(x);
        Due.is("32: BEYOND ahead of NONE", Due.BEYOND, x.atHome(100));
        Due.is("32: none holds", Due.NONE, x.atHome(0));
    }

    private static void since() {
        MaskBows x = new MaskBows();
        x.bow(5, 0, 1, 10);
        x.bow(8, 0, 1, 10);
        x.bow(20, 1, 2, 10);
        x.bow(20, 1, 2, 10);
        x.bow(99, 2, 3, 4);
        Due.is("33: person 0", 8, x.since(0));
        Due.is("33: what is undone within one hour doesn't count", 8, x.since(1));
        Due.is("33: never away by then", 0, x.since(2));
        Due.is("33: person 4", Due.BEYOND, x.since(4));
        Due.is("33: person -1", Due.BEYOND, x.since(-1));
        x.doubt(4, 6);
        Due.is("33: not at hour 99", Due.NONE, x.since(2));
        x.bow(99, 2, 3, 10);
        Due.is("33: home again at hour 99", 0, x.since(2));
        x.bow(98, 2, 3, 10);
        x.bow(99, 2, 3, 10);
        Due.is("33: from hour 99 on", 99, x.since(3));
        bar(x);
        Due.is("33: BEYOND ahead of NONE", Due.BEYOND, x.since(4));
        Due.is("33: none holds", Due.NONE, x.since(0));
    }
}
