import java.util.ArrayList;
import java.util.Arrays;
import java.util.Collection;
import java.util.List;
import java.util.TreeSet;

/** The document word by word and as slow as that is: every set of blows is run from the beginning. */
final class PlainModel {
    private static final int NONE = -1, BAD = -2, STATE = -3, FULL = -4;
    private static final int HOST = 0, KIND = 1, HEAD = 2, A = 3, B = 4, NOT = 5, TO = 6, PRICE = 7;

    private final List<int[]> rules = new ArrayList<>();
    private final boolean[][] first = new boolean[4][8];
    private final List<Integer> hand = new ArrayList<>();
    private List<Integer> found = new ArrayList<>();
    private int end = 4;
    private int[] promise = {0, 0, 0, 0};
    private int[] bounds = {0, 0, 0};

    /** What a run brought about. */
    private static final class Story {
        final boolean[][][] has = new boolean[7][4][8];
        final boolean[][][][] letter = new boolean[7][4][4][8];
        final boolean[] fallen = new boolean[4];
    }

    int end(int t) {
        if (t < 1 || t > 6) return BAD;
        int was = end;
        end = t;
        hand.clear();
        return was;
    }

    int rule(int host, int kind, int head, int a, int b, int not, int to) {
        if (host < -1 || host > 3 || kind < 0 || kind > 2) return NONE;
        if (head < 0 || head > 7 || a < 0 || a > 7 || b < -1 || b > 7 || not < -1 || not > 7) return NONE;
        if (kind == 2 && (to < 0 || to > 3)) return NONE;
        if (kind != 2 && to != 0) return BAD;
        List<int[]> more = new ArrayList<>(rules);
        more.add(new int[] {host, kind, head, a, b, not, to, -1});
        if (layers(more) == null) return STATE;
        if (rules.size() == 12) return FULL;
        rules.add(more.get(more.size() - 1));
        return rules.size() - 1;
    }

    private static int[] layers(List<int[]> all) {
        int[] layer = new int[8];
        boolean more = true;
        while (more) {
            more = false;
            for (int[] r : all) {
                if (r[KIND] != 0) continue;
                while (layer[r[HEAD]] < layer[r[A]]
                        || r[B] >= 0 && layer[r[HEAD]] < layer[r[B]]
                        || r[NOT] >= 0 && layer[r[HEAD]] <= layer[r[NOT]]) {
                    layer[r[HEAD]]++;
                    more = true;
                    if (layer[r[HEAD]] > 7) return null;
                }
            }
        }
        return layer;
    }

    int spare(int rule, int price) {
        if (rule < 0 || rule >= rules.size()) return NONE;
        if (price < -1 || price > 100) return BAD;
        int was = rules.get(rule)[PRICE];
        rules.get(rule)[PRICE] = price;
        return was;
    }

    int first(int host, int fact, int is) {
        if (!isHost(host) || !isFact(fact)) return NONE;
        if (is != 0 && is != 1) return BAD;
        int was = first[host][fact] ? 1 : 0;
        first[host][fact] = is == 1;
        return was;
    }

    int promise(int a, int p, int b, int q) {
        if (!isHost(a) || !isFact(p) || !isHost(b) || !isFact(q)) return NONE;
        promise = new int[] {a, p, b, q};
        return 0;
    }

    int bounds(int l, int f, int t) {
        if (l < 0 || l > 2 || f < 0 || f > 2) return BAD;
        if (t < 0 || t > 6) return NONE;
        bounds = new int[] {l, f, t};
        return 0;
    }

    int blow(int number) {
        if (!allBlows().contains(number)) return NONE;
        if (hand.contains(number)) return BAD;
        if (hand.size() == 4) return FULL;
        hand.add(number);
        return hand.size();
    }

    int clear() {
        int was = hand.size();
        hand.clear();
        return was;
    }

    int facts(int host, int tick) {
        if (!isHost(host) || tick < 0 || tick > end) return NONE;
        boolean[] has = runOf(hand, counting()).has[tick][host];
        int bits = 0;
        for (int f = 0; f < 8; f++) if (has[f]) bits += 1 << f;
        return bits;
    }

    int letters(int tick, int from, int to) {
        if (tick < 0 || tick > end || !isHost(from) || !isHost(to)) return NONE;
        int many = 0;
        for (boolean goes : runOf(hand, counting()).letter[tick][from][to]) if (goes) many++;
        return many;
    }

    int broken() {
        return isBroken(hand, counting()) ? 1 : 0;
    }

    int why(int host, int tick, int fact) {
        if (!isHost(host) || tick < 0 || tick > end || !isFact(fact)) return NONE;
        Story story = runOf(hand, counting());
        if (!story.has[tick][host][fact]) return NONE;
        if (tick == 0 && first[host][fact]) return 0;
        if (tick > 0) {
            for (int r : counting()) {
                int[] rule = rules.get(r);
                if (rule[KIND] == 1 && rule[HEAD] == fact && works(rule, host, story.has[tick - 1][host])) return 200 + r;
            }
            for (int r : counting()) {
                int[] rule = rules.get(r);
                if (rule[KIND] != 2 || rule[HEAD] != fact || rule[TO] != host) continue;
                for (int from = 0; from < 4; from++) {
                    boolean lost = from != host && hand.contains(16 * (tick - 1) + 4 * from + host);
                    if (!lost && works(rule, from, story.has[tick - 1][from])) return 300 + 20 * r + from;
                }
            }
        }
        for (int r : counting()) {
            int[] rule = rules.get(r);
            if (rule[KIND] == 0 && rule[HEAD] == fact && works(rule, host, story.has[tick][host])) return 100 + r;
        }
        throw new IllegalStateException("a fact without a why");
    }

    int layer(int fact) {
        return isFact(fact) ? layers(rules)[fact] : NONE;
    }

    int seek() {
        List<List<Integer>> breaks = smallestBreaks();
        found = breaks.isEmpty() ? new ArrayList<>() : breaks.get(0);
        return breaks.isEmpty() ? 9 : found.size();
    }

    int found(int i) {
        return i >= 0 && i < found.size() ? found.get(i) : NONE;
    }

    int sets() {
        return setsWithin().size();
    }

    int weak(int number) {
        if (!allBlows().contains(number)) return NONE;
        int many = 0;
        for (List<Integer> set : smallestBreaks()) if (set.contains(number)) many++;
        return many;
    }

    int shrink() {
        if (broken() == 0) return STATE;
        boolean gone = true;
        while (gone) {
            gone = false;
            for (int number : new TreeSet<>(hand)) {
                List<Integer> others = new ArrayList<>(hand);
                others.remove((Integer) number);
                if (isBroken(others, counting())) {
                    hand.remove((Integer) number);
                    gone = true;
                }
            }
        }
        return hand.size();
    }

    int mend() {
        List<Integer> spares = new ArrayList<>();
        for (int r = 0; r < rules.size(); r++) if (rules.get(r)[PRICE] >= 0 && spares.size() < 5) spares.add(r);
        int best = NONE;
        int bestSum = 0;
        for (int bits = 0; bits < 1 << spares.size(); bits++) {
            TreeSet<Integer> count = counting();
            int sum = 0;
            for (int i = 0; i < spares.size(); i++) {
                if ((bits >> i) % 2 == 1) {
                    count.add(spares.get(i));
                    sum += rules.get(spares.get(i))[PRICE];
                }
            }
            if (best != NONE && bestSum <= sum) continue;
            boolean holds = true;
            for (List<Integer> set : setsWithin()) if (holds && set.size() < 2 && isBroken(set, count)) holds = false;
            if (holds) {
                best = bits;
                bestSum = sum;
            }
        }
        return best;
    }

    int count(int what) {
        if (what == 0) return rules.size();
        if (what == 1) return rules.size() - counting().size();
        if (what == 2) return hand.size();
        if (what == 3) return end;
        if (what != 4) return NONE;
        int many = 0;
        for (boolean[] row : first) for (boolean is : row) if (is) many++;
        return many;
    }

    int hand(int i) {
        return i >= 0 && i < hand.size() ? hand.get(i) : NONE;
    }

    private static boolean isHost(int host) {
        return host >= 0 && host <= 3;
    }

    private static boolean isFact(int fact) {
        return fact >= 0 && fact <= 7;
    }

    private TreeSet<Integer> counting() {
        TreeSet<Integer> all = new TreeSet<>();
        for (int r = 0; r < rules.size(); r++) if (rules.get(r)[PRICE] == -1) all.add(r);
        return all;
    }

    private TreeSet<Integer> allBlows() {
        TreeSet<Integer> all = new TreeSet<>();
        for (int tick = 0; tick <= end; tick++) {
            for (int host = 0; host < 4; host++) {
                all.add(200 + 4 * tick + host);
                for (int to = 0; to < 4; to++) if (tick < end && to != host) all.add(16 * tick + 4 * host + to);
            }
        }
        return all;
    }

    private static int tickOf(int blow) {
        return blow < 200 ? blow / 16 : (blow - 200) / 4;
    }

    /** All sets within the bounds, by how many they have, then by their numbers. */
    private List<List<Integer>> setsWithin() {
        List<Integer> near = new ArrayList<>();
        for (int blow : allBlows()) if (tickOf(blow) <= bounds[2]) near.add(blow);
        List<List<Integer>> all = new ArrayList<>();
        all.add(new ArrayList<>());
        for (int x : near) all.add(List.of(x));
        for (int x : near) for (int y : near) if (x < y) all.add(List.of(x, y));
        List<List<Integer>> within = new ArrayList<>();
        for (List<Integer> set : all) {
            int losses = 0;
            for (int blow : set) if (blow < 200) losses++;
            if (losses <= bounds[0] && set.size() - losses <= bounds[1]) within.add(set);
        }
        return within;
    }

    private List<List<Integer>> smallestBreaks() {
        List<List<Integer>> breaks = new ArrayList<>();
        TreeSet<Integer> count = counting();
        for (List<Integer> set : setsWithin()) {
            if (!breaks.isEmpty() && breaks.get(0).size() < set.size()) break;
            if (isBroken(set, count)) breaks.add(set);
        }
        return breaks;
    }

    private boolean isBroken(Collection<Integer> blows, Collection<Integer> count) {
        Story story = runOf(blows, count);
        if (!story.has[end][promise[0]][promise[1]]) return false;
        return !story.has[end][promise[2]][promise[3]] && !story.fallen[promise[2]];
    }

    private static boolean works(int[] rule, int host, boolean[] has) {
        if (rule[HOST] != -1 && rule[HOST] != host) return false;
        return has[rule[A]] && (rule[B] == -1 || has[rule[B]]) && (rule[NOT] == -1 || !has[rule[NOT]]);
    }

    private Story runOf(Collection<Integer> blows, Collection<Integer> count) {
        Story story = new Story();
        int[] layer = layers(rules);
        boolean[][] next = new boolean[4][];
        for (int host = 0; host < 4; host++) next[host] = Arrays.copyOf(first[host], 8);
        for (int tick = 0; tick <= end; tick++) {
            boolean[][] begin = next;
            next = new boolean[4][8];
            for (int host = 0; host < 4; host++) {
                if (blows.contains(200 + 4 * tick + host)) story.fallen[host] = true;
                if (story.fallen[host]) continue;
                boolean[] has = story.has[tick][host];
                System.arraycopy(begin[host], 0, has, 0, 8);
                for (int step = 0; step < 8; step++) {
                    boolean more = true;
                    while (more) {
                        more = false;
                        for (int r : count) {
                            int[] rule = rules.get(r);
                            if (rule[KIND] != 0 || layer[rule[HEAD]] != step || !works(rule, host, has)) continue;
                            more = more || !has[rule[HEAD]];
                            has[rule[HEAD]] = true;
                        }
                    }
                }
                for (int r : count) {
                    int[] rule = rules.get(r);
                    if (!works(rule, host, has)) continue;
                    if (rule[KIND] == 1) next[host][rule[HEAD]] = true;
                    if (rule[KIND] != 2) continue;
                    story.letter[tick][host][rule[TO]][rule[HEAD]] = true;
                    boolean lost = rule[TO] != host && blows.contains(16 * tick + 4 * host + rule[TO]);
                    if (!lost) next[rule[TO]][rule[HEAD]] = true;
                }
            }
        }
        return story;
    }
}
