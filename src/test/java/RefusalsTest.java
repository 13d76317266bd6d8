import java.util.ArrayList;
import java.util.List;

/** Part 4 of the document: what each call refuses, which refusal comes first, and that it changes nothing. */
public final class RefusalsTest {
    private static final int NONE = -1, BAD = -2, STATE = -3, FULL = -4;
    private static final int LEAST = Integer.MIN_VALUE, MOST = Integer.MAX_VALUE;
    private static int wrong = 0;
    private static int asked = 0;

    /** One call whose numbers are still to be told. */
    private interface Call {
        int on(BlowSeeker x, int... n);
    }

    private interface Maker {
        BlowSeeker make();
    }

    public static void main(String[] args) {
        edgesOfEnd();
        edgesOfRule();
        edgesOfSpare();
        edgesOfFirst();
        edgesOfPromise();
        edgesOfBounds();
        edgesOfBlows();
        edgesOfTicks();
        edgesOfLayer();
        edgesOfFound();
        edgesOfCount();
        edgesOfHand();
        firstOneToldOfRule();
        firstOneToldOfOthers();
        refusalsChangeNothing(RefusalsTest::withRoom);
        refusalsChangeNothing(RefusalsTest::withoutRoom);
        fullChangesNothing();
        stateOfShrinkChangesNothing();
        looksChangeNothing(RefusalsTest::withRoom);
        looksChangeNothing(RefusalsTest::withoutRoom);
        System.out.println(asked + " answers asked, " + wrong + " not as due");
        if (wrong != 0) {
            System.exit(1);
        }
    }

    private static void due(String call, int got, int want) {
        asked++;
        if (got != want) {
            wrong++;
            System.out.println(call + " answered " + got + ", due is " + want);
        }
    }

    private static String told(String name, int... n) {
        StringBuilder text = new StringBuilder(name).append('(');
        for (int i = 0; i < n.length; i++) {
            text.append(i == 0 ? "" : ", ").append(n[i]);
        }
        return text.append(')').toString();
    }

    // ---- the edges of each number

    /** Every number from least to most in one place of a good call is good; those outside are refused. */
    private static void edges(String name, Maker maker, Call call, int[] good, int place, int least, int most, int refusal) {
        for (int number = least; number <= most; number++) {
            int[] n = good.clone();
            n[place] = number;
            int got = call.on(maker.make(), n);
            due(told(name, n) + ", refused,", got < 0 ? 1 : 0, 0);
        }
        for (int number : outside(least, most)) {
            int[] n = good.clone();
            n[place] = number;
            due(told(name, n), call.on(maker.make(), n), refusal);
        }
    }

    private static int[] outside(int least, int most) {
        return new int[] {least - 1, least - 2, least - 8, least - 256, LEAST, LEAST + 1, LEAST + 4,
            most + 1, most + 2, most + 8, most + 256, MOST, MOST - 1, MOST - 4};
    }

    /** "END 1 .. 6", "BAD". */
    private static void edgesOfEnd() {
        edges("2: end", RefusalsTest::withRoom, (x, n) -> x.end(n[0]), new int[] {4}, 0, 1, 6, BAD);
    }

    /** "host -1: all; b, not -1: none; to: of SENT a HOST, else 0", "NONE: host, kind, FACTS, to; BAD: to not 0". */
    private static void edgesOfRule() {
        Call rule = (x, n) -> x.rule(n[0], n[1], n[2], n[3], n[4], n[5], n[6]);
        int[] now = {0, 0, 7, 0, 0, -1, 0};
        int[] kept = {0, 1, 7, 0, 0, -1, 0};
        int[] sent = {0, 2, 7, 0, 0, -1, 0};
        for (int[] good : new int[][] {now, kept, sent}) {
            edges("3: rule", BlowSeeker::new, rule, good, 0, -1, 3, NONE);
            edges("3: rule", BlowSeeker::new, rule, good, 1, 0, 2, NONE);
            edges("3: rule", BlowSeeker::new, rule, good, 2, 0, 7, NONE);
            edges("3: rule", BlowSeeker::new, rule, good, 3, 0, 7, NONE);
            edges("3: rule", BlowSeeker::new, rule, good, 4, -1, 7, NONE);
        }
        edges("3: rule", BlowSeeker::new, rule, kept, 5, -1, 7, NONE);
        edges("3: rule", BlowSeeker::new, rule, sent, 5, -1, 7, NONE);
        edges("3: rule", BlowSeeker::new, rule, new int[] {0, 0, 3, 3, -1, -1, 0}, 6, 0, 0, BAD);
        edges("3: rule", BlowSeeker::new, rule, kept, 6, 0, 0, BAD);
        edges("3: rule", BlowSeeker::new, rule, sent, 6, 0, 3, NONE);
        for (int not = -1; not <= 7; not++) {
            due(told("3: rule", 0, 0, 4, 0, -1, not, 0), new BlowSeeker().rule(0, 0, 4, 0, -1, not, 0), not == 4 ? STATE : 0);
        }
        for (int not : outside(-1, 7)) {
            due(told("3: rule", 0, 0, 4, 0, -1, not, 0), new BlowSeeker().rule(0, 0, 4, 0, -1, not, 0), NONE);
        }
    }

    /** "PRICE 0 .. 100", "-1: PUT IN", "no RULE: -1 as well", "not -1 .. 100". */
    private static void edgesOfSpare() {
        Call spare = (x, n) -> x.spare(n[0], n[1]);
        for (int many = 0; many <= 12; many++) {
            int rules = many;
            edges("4: spare", () -> spares(rules), spare, new int[] {0, 3}, 0, 0, many - 1, NONE);
        }
        edges("4: spare", () -> spares(1), spare, new int[] {0, 3}, 1, -1, 100, BAD);
        edges("4: spare", () -> spares(12), spare, new int[] {11, 3}, 1, -1, 100, BAD);
    }

    private static BlowSeeker spares(int many) {
        BlowSeeker x = new BlowSeeker();
        for (int i = 0; i < many; i++) {
            x.rule(-1, 1, i % 8, 0, -1, -1, 0);
            x.spare(i, 50);
        }
        return x;
    }

    private static void edgesOfFirst() {
        Call first = (x, n) -> x.first(n[0], n[1], n[2]);
        for (int is = 0; is <= 1; is++) {
            edges("5: first", BlowSeeker::new, first, new int[] {3, 7, is}, 0, 0, 3, NONE);
            edges("5: first", BlowSeeker::new, first, new int[] {3, 7, is}, 1, 0, 7, NONE);
        }
        edges("5: first", BlowSeeker::new, first, new int[] {3, 7, 0}, 2, 0, 1, BAD);
        edges("5: first", BlowSeeker::new, first, new int[] {0, 0, 0}, 2, 0, 1, BAD);
    }

    private static void edgesOfPromise() {
        Call promise = (x, n) -> x.promise(n[0], n[1], n[2], n[3]);
        for (int[] good : new int[][] {{0, 0, 0, 0}, {3, 7, 3, 7}}) {
            edges("6: promise", BlowSeeker::new, promise, good, 0, 0, 3, NONE);
            edges("6: promise", BlowSeeker::new, promise, good, 1, 0, 7, NONE);
            edges("6: promise", BlowSeeker::new, promise, good, 2, 0, 3, NONE);
            edges("6: promise", BlowSeeker::new, promise, good, 3, 0, 7, NONE);
        }
    }

    /** "0 .. 2 each", "BAD: l, f; NONE: t not 0 .. 6", whatever END is. */
    private static void edgesOfBounds() {
        Call bounds = (x, n) -> x.bounds(n[0], n[1], n[2]);
        for (int end = 1; end <= 6; end++) {
            int t = end;
            Maker maker = () -> ending(t);
            for (int[] good : new int[][] {{0, 0, 0}, {2, 2, 6}}) {
                edges("7: bounds", maker, bounds, good, 0, 0, 2, BAD);
                edges("7: bounds", maker, bounds, good, 1, 0, 2, BAD);
                edges("7: bounds", maker, bounds, good, 2, 0, 6, NONE);
            }
        }
    }

    private static BlowSeeker ending(int end) {
        BlowSeeker x = new BlowSeeker();
        x.end(end);
        return x;
    }

    /** "no such BLOW (TICKS beyond END, or a LOSS at END, too)": every number, at every END, of blow and of weak. */
    private static void edgesOfBlows() {
        for (int end = 1; end <= 6; end++) {
            boolean[] is = new boolean[400];
            for (int host = 0; host < 4; host++) {
                for (int tick = 0; tick <= end; tick++) {
                    is[200 + 4 * tick + host] = true;
                    for (int to = 0; to < 4; to++) {
                        is[16 * tick + 4 * host + to] |= tick < end && to != host;
                    }
                }
            }
            for (int number = 0; number < is.length; number++) {
                lookAtBlow(end, number, is[number]);
            }
            for (int number : new int[] {LEAST, LEAST + 1, LEAST + 200, LEAST + 201, -1000, -200, -17, -16, -15, -1,
                1000, MOST - 1, MOST}) {
                lookAtBlow(end, number, false);
            }
        }
    }

    private static void lookAtBlow(int end, int number, boolean is) {
        due("8: END " + end + ", blow(" + number + ")", ending(end).blow(number), is ? 1 : NONE);
        due("18: END " + end + ", weak(" + number + ")", ending(end).weak(number), is ? 0 : NONE);
        BlowSeeker x = ending(end);
        x.bounds(2, 2, 6);
        due("18: END " + end + ", bounds, weak(" + number + ")", x.weak(number), is ? 0 : NONE);
    }

    /** "TICKS 0 .. END": of facts, letters and why, with HOSTS and FACTS. */
    private static void edgesOfTicks() {
        Call facts = (x, n) -> x.facts(n[0], n[1]);
        Call letters = (x, n) -> x.letters(n[0], n[1], n[2]);
        Call why = (x, n) -> x.why(n[0], n[1], n[2]);
        for (int end = 1; end <= 6; end++) {
            int t = end;
            Maker maker = () -> keepsAll(t);
            edges("10: facts", maker, facts, new int[] {3, end}, 0, 0, 3, NONE);
            edges("10: facts", maker, facts, new int[] {3, end}, 1, 0, end, NONE);
            edges("11: letters", maker, letters, new int[] {end, 3, 0}, 0, 0, end, NONE);
            edges("11: letters", maker, letters, new int[] {end, 3, 0}, 1, 0, 3, NONE);
            edges("11: letters", maker, letters, new int[] {end, 3, 0}, 2, 0, 3, NONE);
            edges("13: why", maker, why, new int[] {3, end, 7}, 0, 0, 3, NONE);
            edges("13: why", maker, why, new int[] {3, end, 7}, 1, 0, end, NONE);
            for (int of = 0; of < 4 * (end + 1); of++) {
                edges("13: why", maker, why, new int[] {of % 4, of / 4, 7}, 2, 0, 7, NONE);
            }
        }
    }

    /** Every host has every fact at every tick. */
    private static BlowSeeker keepsAll(int end) {
        BlowSeeker x = ending(end);
        for (int fact = 0; fact < 8; fact++) {
            x.rule(-1, 1, fact, fact, -1, -1, 0);
            for (int host = 0; host < 4; host++) {
                x.first(host, fact, 1);
            }
        }
        return x;
    }

    private static void edgesOfLayer() {
        edges("14: layer", BlowSeeker::new, (x, n) -> x.layer(n[0]), new int[] {0}, 0, 0, 7, NONE);
        edges("14: layer", RefusalsTest::withoutRoom, (x, n) -> x.layer(n[0]), new int[] {0}, 0, 0, 7, NONE);
    }

    /** "BLOW i of THE BREAK found latest. NONE": of no break, and of one with 0, 1 and 2 blows. */
    private static void edgesOfFound() {
        Call found = (x, n) -> x.found(n[0]);
        edges("16: not sought: found", RefusalsTest::breakOfTwo, found, new int[] {0}, 0, 0, -1, NONE);
        edges("16: two: found", () -> sought(breakOfTwo(), 2), found, new int[] {0}, 0, 0, 1, NONE);
        edges("16: one: found", () -> sought(breakOfOne(), 1), found, new int[] {0}, 0, 0, 0, NONE);
        edges("16: none needed: found", () -> sought(breakOfNone(), 0), found, new int[] {0}, 0, 0, -1, NONE);
        edges("16: safe: found", () -> sought(new BlowSeeker(), 9), found, new int[] {0}, 0, 0, -1, NONE);
    }

    private static BlowSeeker sought(BlowSeeker x, int want) {
        due("15: seek", x.seek(), want);
        return x;
    }

    /** Host 0 keeps fact 0 and sends it at ticks 0 and 1 to host 1, which keeps it. */
    private static BlowSeeker breakOfTwo() {
        BlowSeeker x = ending(2);
        x.rule(-1, 1, 0, 0, -1, -1, 0);
        x.rule(0, 2, 0, 0, -1, -1, 1);
        x.first(0, 0, 1);
        x.promise(0, 0, 1, 0);
        x.bounds(2, 2, 6);
        return x;
    }

    private static BlowSeeker breakOfOne() {
        BlowSeeker x = breakOfTwo();
        x.end(1);
        return x;
    }

    private static BlowSeeker breakOfNone() {
        BlowSeeker x = breakOfTwo();
        x.spare(1, 0);
        return x;
    }

    private static void edgesOfCount() {
        edges("21: count", BlowSeeker::new, (x, n) -> x.count(n[0]), new int[] {0}, 0, 0, 4, NONE);
        edges("21: count", RefusalsTest::withoutRoom, (x, n) -> x.count(n[0]), new int[] {0}, 0, 0, 4, NONE);
    }

    private static void edgesOfHand() {
        for (int many = 0; many <= 4; many++) {
            int blows = many;
            edges("22: hand", () -> holding(blows), (x, n) -> x.hand(n[0]), new int[] {0}, 0, 0, many - 1, NONE);
        }
    }

    private static BlowSeeker holding(int many) {
        BlowSeeker x = new BlowSeeker();
        for (int i = 0; i < many; i++) {
            x.blow(203 - i);
        }
        return x;
    }

    // ---- "of several the first one told"

    /** "NONE: host, kind, FACTS, to; BAD: to not 0 as told; STATE: there would be no LAYERS; FULL." */
    private static void firstOneToldOfRule() {
        int[][] noSuch = {{0, 4}, {0, -2}, {1, 3}, {1, -1}, {2, 8}, {2, -1}, {3, 8}, {3, -1}, {4, 8}, {4, -2}, {5, 8}, {5, -2}};
        for (int of = 0; of < 8; of++) {
            boolean bad = (of & 1) != 0;
            boolean state = (of & 2) != 0;
            boolean full = (of & 4) != 0;
            int[] n = {-1, 0, 5, 1, 2, state ? 5 : 3, bad ? 1 : 0};
            int want = bad ? BAD : state ? STATE : full ? FULL : 1;
            due(told("3: rule", n), put(full, n), want);
            for (int[] none : noSuch) {
                int[] other = n.clone();
                other[none[0]] = none[1];
                due(told("3: rule", other), put(full, other), NONE);
            }
        }
        due("3: SENT, to 4, FULL", put(true, -1, 2, 5, 1, 2, 3, 4), NONE);
        due("3: SENT, to 1, FULL", put(true, -1, 2, 5, 1, 2, 3, 1), FULL);
        due("3: KEPT, to 1, FULL", put(true, -1, 1, 5, 1, 2, 5, 1), BAD);
        due("3: KEPT, not its head, FULL", put(true, -1, 1, 5, 1, 2, 5, 0), FULL);
    }

    private static int put(boolean full, int... n) {
        BlowSeeker x = spares(full ? 12 : 1);
        return x.rule(n[0], n[1], n[2], n[3], n[4], n[5], n[6]);
    }

    private static void firstOneToldOfOthers() {
        BlowSeeker x = withRoom();
        due("4: NONE ahead of BAD", x.spare(99, 101), NONE);
        due("4: NONE ahead of BAD", x.spare(-1, -2), NONE);
        due("5: NONE ahead of BAD", x.first(4, 0, 2), NONE);
        due("5: NONE ahead of BAD", x.first(0, 8, -1), NONE);
        due("7: BAD ahead of NONE", x.bounds(3, 0, 7), BAD);
        due("7: BAD ahead of NONE", x.bounds(0, 3, 7), BAD);
        due("7: BAD ahead of NONE", x.bounds(-1, 0, -1), BAD);
        due("7: BAD ahead of NONE", x.bounds(2, -1, -1), BAD);
        BlowSeeker y = withoutRoom();
        due("8: NONE ahead of FULL", y.blow(0), NONE);
        due("8: NONE ahead of FULL", y.blow(199), NONE);
        due("8: BAD ahead of FULL", y.blow(y.hand(0)), BAD);
        due("8: BAD ahead of FULL", y.blow(y.hand(3)), BAD);
        due("8: FULL", y.blow(203), FULL);
    }

    // ---- "They change nothing"

    /** All that is asked of an object shows; what can be asked only by changing it comes last. */
    private static List<Integer> report(BlowSeeker x) {
        List<Integer> all = new ArrayList<>();
        for (int i = 0; i < 5; i++) all.add(x.count(i));
        for (int i = 0; i < 4; i++) all.add(x.hand(i));
        for (int i = 0; i < 2; i++) all.add(x.found(i));
        for (int host = 0; host < 4; host++) {
            for (int tick = 0; tick < 4; tick++) {
                all.add(x.facts(host, tick));
                for (int fact = 0; fact < 8; fact++) all.add(x.why(host, tick, fact));
                for (int to = 0; to < 4; to++) all.add(x.letters(tick, host, to));
            }
        }
        for (int fact = 0; fact < 8; fact++) all.add(x.layer(fact));
        all.add(x.broken());
        all.add(x.sets());
        for (int number = 0; number < 48; number++) all.add(x.weak(number));
        for (int number = 200; number < 216; number++) all.add(x.weak(number));
        all.add(x.mend());
        all.add(x.seek());
        for (int i = 0; i < 2; i++) all.add(x.found(i));
        all.add(x.shrink());
        for (int i = 0; i < 4; i++) all.add(x.hand(i));
        for (int rule = 0; rule < 12; rule++) all.add(x.spare(rule, -1));
        for (int fact = 0; fact < 8; fact++) all.add(x.first(fact % 4, fact, 0));
        all.add(x.seek());
        all.add(x.end(1));
        return all;
    }

    /** Four rules, two of them spare, two blows in hand, a break found: room for more of each. */
    private static BlowSeeker withRoom() {
        BlowSeeker x = ending(3);
        x.rule(-1, 1, 0, 0, -1, -1, 0);
        x.rule(0, 2, 1, 0, -1, -1, 1);
        x.rule(1, 0, 2, 1, -1, 3, 0);
        x.rule(1, 1, 2, 2, -1, -1, 0);
        x.rule(0, 2, 1, 0, -1, -1, 1);
        x.spare(3, 7);
        x.spare(4, 2);
        x.first(0, 0, 1);
        x.first(3, 7, 1);
        x.promise(0, 0, 1, 2);
        x.bounds(1, 1, 2);
        x.seek();
        x.blow(202);
        x.blow(33);
        return x;
    }

    /** As many rules and blows in hand as there can be. */
    private static BlowSeeker withoutRoom() {
        BlowSeeker x = withRoom();
        x.rule(0, 2, 4, 0, -1, -1, 2);
        x.rule(2, 2, 1, 4, -1, -1, 1);
        x.rule(-1, 0, 5, 2, 0, 7, 0);
        x.rule(-1, 0, 6, 5, -1, -1, 0);
        x.rule(-1, 1, 7, 7, -1, 6, 0);
        x.rule(3, 2, 7, 7, -1, -1, 3);
        x.rule(3, 2, 3, 7, -1, -1, 2);
        x.spare(6, 100);
        x.bounds(2, 1, 3);
        x.seek();
        x.blow(1);
        x.blow(17);
        return x;
    }

    private static void dueSame(String call, BlowSeeker x, Maker maker) {
        asked++;
        if (!report(x).equals(report(maker.make()))) {
            wrong++;
            System.out.println(call + " changed something");
        }
    }

    /** The call is refused as told, and an object that heard it answers all as one that did not. */
    private static void dueNothing(Maker maker, String name, Call call, int refusal, int... n) {
        BlowSeeker x = maker.make();
        due(told(name, n), call.on(x, n), refusal);
        dueSame(told(name, n), x, maker);
    }

    private static void refusalsChangeNothing(Maker maker) {
        Call rule = (x, n) -> x.rule(n[0], n[1], n[2], n[3], n[4], n[5], n[6]);
        dueNothing(maker, "2: end", (x, n) -> x.end(n[0]), BAD, 0);
        dueNothing(maker, "2: end", (x, n) -> x.end(n[0]), BAD, 7);
        dueNothing(maker, "3: rule", rule, NONE, 4, 1, 3, 0, -1, -1, 0);
        dueNothing(maker, "3: rule", rule, NONE, -1, 3, 3, 0, -1, -1, 0);
        dueNothing(maker, "3: rule", rule, NONE, -1, 1, 8, 0, -1, -1, 0);
        dueNothing(maker, "3: rule", rule, NONE, -1, 1, 3, 8, -1, -1, 0);
        dueNothing(maker, "3: rule", rule, NONE, -1, 1, 3, 0, -2, -1, 0);
        dueNothing(maker, "3: rule", rule, NONE, -1, 1, 3, 0, -1, -2, 0);
        dueNothing(maker, "3: rule", rule, NONE, -1, 2, 3, 0, -1, -1, 4);
        dueNothing(maker, "3: rule", rule, BAD, -1, 1, 3, 0, -1, -1, 1);
        dueNothing(maker, "3: rule", rule, BAD, -1, 0, 3, 0, -1, -1, -1);
        dueNothing(maker, "3: rule", rule, STATE, -1, 0, 3, 0, -1, 3, 0);
        dueNothing(maker, "3: rule", rule, STATE, 2, 0, 3, 2, -1, -1, 0);
        Call spare = (x, n) -> x.spare(n[0], n[1]);
        dueNothing(maker, "4: spare", spare, NONE, -1, 5);
        dueNothing(maker, "4: spare", spare, NONE, 12, 5);
        dueNothing(maker, "4: spare", spare, BAD, 0, -2);
        dueNothing(maker, "4: spare", spare, BAD, 3, 101);
        Call first = (x, n) -> x.first(n[0], n[1], n[2]);
        dueNothing(maker, "5: first", first, NONE, 4, 0, 1);
        dueNothing(maker, "5: first", first, NONE, 0, 8, 1);
        dueNothing(maker, "5: first", first, BAD, 0, 1, 2);
        dueNothing(maker, "5: first", first, BAD, 0, 0, -1);
        Call promise = (x, n) -> x.promise(n[0], n[1], n[2], n[3]);
        dueNothing(maker, "6: promise", promise, NONE, 4, 7, 2, 6);
        dueNothing(maker, "6: promise", promise, NONE, 3, 8, 2, 6);
        dueNothing(maker, "6: promise", promise, NONE, 0, 0, 4, 6);
        dueNothing(maker, "6: promise", promise, NONE, 0, 0, 2, 8);
        Call bounds = (x, n) -> x.bounds(n[0], n[1], n[2]);
        dueNothing(maker, "7: bounds", bounds, BAD, 3, 0, 0);
        dueNothing(maker, "7: bounds", bounds, BAD, 0, 3, 0);
        dueNothing(maker, "7: bounds", bounds, NONE, 0, 0, 7);
        dueNothing(maker, "8: blow", (x, n) -> x.blow(n[0]), NONE, 0);
        dueNothing(maker, "8: blow", (x, n) -> x.blow(n[0]), NONE, 49);
        dueNothing(maker, "8: blow", (x, n) -> x.blow(n[0]), NONE, 216);
        dueNothing(maker, "8: blow", (x, n) -> x.blow(n[0]), BAD, 33);
        dueNothing(maker, "10: facts", (x, n) -> x.facts(n[0], n[1]), NONE, 0, 4);
        dueNothing(maker, "11: letters", (x, n) -> x.letters(n[0], n[1], n[2]), NONE, 4, 0, 0);
        dueNothing(maker, "13: why", (x, n) -> x.why(n[0], n[1], n[2]), NONE, 0, 4, 0);
        dueNothing(maker, "13: why", (x, n) -> x.why(n[0], n[1], n[2]), NONE, 0, 0, 6);
        dueNothing(maker, "14: layer", (x, n) -> x.layer(n[0]), NONE, 8);
        dueNothing(maker, "16: found", (x, n) -> x.found(n[0]), NONE, 2);
        dueNothing(maker, "18: weak", (x, n) -> x.weak(n[0]), NONE, 49);
        dueNothing(maker, "21: count", (x, n) -> x.count(n[0]), NONE, 5);
        dueNothing(maker, "22: hand", (x, n) -> x.hand(n[0]), NONE, 4);
    }

    private static void fullChangesNothing() {
        Maker maker = RefusalsTest::withoutRoom;
        Call rule = (x, n) -> x.rule(n[0], n[1], n[2], n[3], n[4], n[5], n[6]);
        dueNothing(maker, "3: rule", rule, FULL, -1, 1, 3, 0, -1, -1, 0);
        dueNothing(maker, "3: rule", rule, FULL, -1, 2, 3, 0, -1, -1, 2);
        dueNothing(maker, "3: rule", rule, FULL, -1, 0, 7, 0, -1, 3, 0);
        dueNothing(maker, "8: blow", (x, n) -> x.blow(n[0]), FULL, 203);
    }

    /** "STATE: THE PROMISE is not BROKEN by them": of four blows in hand and of none. */
    private static void stateOfShrinkChangesNothing() {
        Maker holds = () -> {
            BlowSeeker x = withoutRoom();
            x.promise(0, 6, 1, 2);
            return x;
        };
        dueNothing(holds, "19: shrink", (x, n) -> x.shrink(), STATE);
        Maker empty = () -> {
            BlowSeeker x = withRoom();
            x.clear();
            return x;
        };
        dueNothing(empty, "19: shrink", (x, n) -> x.shrink(), STATE);
        Maker safe = () -> {
            BlowSeeker x = withRoom();
            x.bounds(2, 2, 6);
            x.spare(0, 5);
            x.promise(3, 0, 3, 1);
            return x;
        };
        dueNothing(safe, "20: mend beside shrink", (x, n) -> x.mend() + x.shrink(), STATE);
        Maker noMend = () -> {
            BlowSeeker x = withRoom();
            x.promise(0, 0, 2, 7);
            return x;
        };
        dueNothing(noMend, "20: mend", (x, n) -> x.mend(), NONE);
    }

    /** Calls that tell something leave all as it is, in whatever order they come. */
    private static void looksChangeNothing(Maker maker) {
        Call[] looks = {
            (x, n) -> x.facts(1, 3), (x, n) -> x.letters(0, 0, 1), (x, n) -> x.broken(), (x, n) -> x.why(1, 2, 2),
            (x, n) -> x.layer(2), (x, n) -> x.found(0), (x, n) -> x.sets(), (x, n) -> x.weak(1), (x, n) -> x.weak(200),
            (x, n) -> x.mend(), (x, n) -> x.count(4), (x, n) -> x.hand(0), (x, n) -> x.seek(),
            (x, n) -> x.mend() + x.weak(1) + x.mend() + x.facts(0, 0) + x.seek() + x.mend()
        };
        for (int i = 0; i < looks.length; i++) {
            BlowSeeker x = maker.make();
            looks[i].on(x);
            dueSame("look " + i, x, maker);
        }
    }
}
