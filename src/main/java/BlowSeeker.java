import java.util.ArrayList;
import java.util.Arrays;

/**
 * Hosts that run small rules tick by tick, and the fewest blows (letters lost, hosts that fall)
 * that break what is promised at the end.
 */
public final class BlowSeeker {
    public static final int NONE = -1, BAD = -2, STATE = -3, FULL = -4;

    private static final int HOSTS = 4;
    private static final int FACTS = 8;
    private static final int FACT_SETS = 256;
    private static final int LAST_FACT_SET = 255;
    private static final int MOST_END = 6;
    private static final int TICKS = 7;
    private static final int MOST_RULES = 12;
    private static final int MOST_PRICE = 100;
    private static final int MOST_SPARES = 5;
    private static final int MOST_IN_HAND = 4;
    private static final int MOST_OF_A_KIND = 2;
    private static final int NOW = 0;
    private static final int KEPT = 1;
    private static final int SENT = 2;
    private static final int ALL = -1;
    private static final int NOTHING = -1;
    private static final int PUT_IN = -1;
    private static final int FIRST_FALL = 200;
    private static final int BLOW_NUMBERS = 228;
    private static final int MOST_BLOWS = 100;
    private static final int SAFE = 9;

    private final World world = new World();
    private final Limits limits = new Limits();
    private final Search search = new Search(world, limits);
    private final Run handRun = new Run(world);
    private final int[] inHand = new int[MOST_IN_HAND];
    private final int[] latest = new int[2];
    private int handSize = 0;
    private int latestSize = 0;
    private boolean handRunKnown = false;

    public BlowSeeker() {
    }

    // ---- the world

    public int end(int t) {
        if (t < 1 || t > MOST_END) {
            return BAD;
        }
        int was = world.endTick;
        world.endTick = t;
        handSize = 0;
        forgetRuns();
        return was;
    }

    public int rule(int host, int kind, int head, int a, int b, int not, int to) {
        boolean owner = host == ALL || isHost(host);
        boolean body = isFact(a) && (b == NOTHING || isFact(b));
        boolean denied = not == NOTHING || isFact(not);
        boolean target = kind != SENT || isHost(to);
        if (!owner || kind < NOW || kind > SENT || !isFact(head) || !body || !denied || !target) {
            return NONE;
        }
        if (kind != SENT && to != 0) {
            return BAD;
        }
        Rule more = new Rule(host, kind, head, a, b, not, to);
        if (!world.rules.hasLayersWith(more)) {
            return STATE;
        }
        if (world.rules.list.size() >= MOST_RULES) {
            return FULL;
        }
        world.rules.take(more);
        forgetRules();
        return world.rules.list.size() - 1;
    }

    public int spare(int rule, int price) {
        if (rule < 0 || rule >= world.rules.list.size()) {
            return NONE;
        }
        if (price < PUT_IN || price > MOST_PRICE) {
            return BAD;
        }
        Rule told = world.rules.list.get(rule);
        int was = told.price;
        told.price = price;
        forgetRules();
        return was;
    }

    public int first(int host, int fact, int is) {
        if (!isHost(host) || !isFact(fact)) {
            return NONE;
        }
        if (is < 0 || is > 1) {
            return BAD;
        }
        int bit = bitOf(host, fact);
        int was = (world.firstFacts & bit) == 0 ? 0 : 1;
        world.firstFacts = is == 1 ? world.firstFacts | bit : world.firstFacts & ~bit;
        forgetRuns();
        return was;
    }

    public int promise(int a, int p, int b, int q) {
        if (!isHost(a) || !isFact(p) || !isHost(b) || !isFact(q)) {
            return NONE;
        }
        world.ifBit = bitOf(a, p);
        world.thenHost = b;
        world.thenBit = bitOf(b, q);
        search.known = false;
        return 0;
    }

    public int bounds(int l, int f, int t) {
        if (l < 0 || l > MOST_OF_A_KIND || f < 0 || f > MOST_OF_A_KIND) {
            return BAD;
        }
        if (t < 0 || t > MOST_END) {
            return NONE;
        }
        limits.losses = l;
        limits.falls = f;
        limits.lastTick = t;
        search.known = false;
        return 0;
    }

    // ---- blows in hand, the run

    public int blow(int number) {
        if (!Blow.exists(number, world.endTick)) {
            return NONE;
        }
        for (int i = 0; i < handSize; i++) {
            if (inHand[i] == number) {
                return BAD;
            }
        }
        if (handSize >= MOST_IN_HAND) {
            return FULL;
        }
        inHand[handSize] = number;
        handSize++;
        handRunKnown = false;
        return handSize;
    }

    public int clear() {
        int was = handSize;
        handSize = 0;
        handRunKnown = false;
        return was;
    }

    public int facts(int host, int tick) {
        if (!isHost(host) || !isTick(tick)) {
            return NONE;
        }
        runHand();
        return handRun.factsOf(host, tick);
    }

    public int letters(int tick, int from, int to) {
        if (!isTick(tick) || !isHost(from) || !isHost(to)) {
            return NONE;
        }
        runHand();
        return Integer.bitCount(handRun.sentFacts(tick, from, to));
    }

    public int broken() {
        runHand();
        return handRun.breaks() ? 1 : 0;
    }

    public int why(int host, int tick, int fact) {
        if (!isHost(host) || !isTick(tick) || !isFact(fact)) {
            return NONE;
        }
        runHand();
        return handRun.reason(host, tick, fact);
    }

    public int layer(int fact) {
        return isFact(fact) ? world.rules.layers[fact] : NONE;
    }

    // ---- seeking

    public int seek() {
        search.look();
        latestSize = search.breakSize == SAFE ? 0 : search.breakSize;
        latest[0] = search.least;
        latest[1] = search.other;
        return search.breakSize;
    }

    public int found(int i) {
        return i >= 0 && i < latestSize ? latest[i] : NONE;
    }

    public int sets() {
        return limits.countSets(world.endTick);
    }

    public int weak(int number) {
        if (!Blow.exists(number, world.endTick)) {
            return NONE;
        }
        search.look();
        return search.standsIn(number);
    }

    public int shrink() {
        runHand();
        if (!handRun.breaks()) {
            return STATE;
        }
        boolean gone = true;
        for (int pass = 0; gone && pass < MOST_IN_HAND; pass++) {
            gone = dropNeedless();
        }
        handRunKnown = false;
        return handSize;
    }

    public int mend() {
        return search.cheapestMend();
    }

    public int count(int what) {
        switch (what) {
            case 0:
                return world.rules.list.size();
            case 1:
                return world.rules.countSpares();
            case 2:
                return handSize;
            case 3:
                return world.endTick;
            case 4:
                return Integer.bitCount(world.firstFacts);
            default:
                return NONE;
        }
    }

    public int hand(int i) {
        return i >= 0 && i < handSize ? inHand[i] : NONE;
    }

    // ---- what the calls share

    private static boolean isHost(int host) {
        return host >= 0 && host < HOSTS;
    }

    private static boolean isFact(int fact) {
        return fact >= 0 && fact < FACTS;
    }

    private boolean isTick(int tick) {
        return tick >= 0 && tick <= world.endTick;
    }

    /** The facts of all hosts stand in one int, eight bits a host. */
    private static int bitOf(int host, int fact) {
        return 1 << (FACTS * host + fact);
    }

    private void forgetRuns() {
        handRunKnown = false;
        search.known = false;
    }

    private void forgetRules() {
        world.steps.countOnly(world.rules.notSpare());
        forgetRuns();
    }

    private void runHand() {
        if (!handRunKnown) {
            strikeHandBut(NOTHING);
            handRunKnown = true;
        }
    }

    private void strikeHandBut(int left) {
        handRun.strikeNone();
        for (int i = 0; i < handSize; i++) {
            if (i != left) {
                handRun.strike(inHand[i]);
            }
        }
        handRun.goOn();
    }

    /** One pass over the blows in hand by their numbers; whether one went. */
    private boolean dropNeedless() {
        boolean gone = false;
        int at = placeOfLeastAbove(NOTHING);
        for (int step = 0; at != NOTHING && step < MOST_IN_HAND; step++) {
            int number = inHand[at];
            strikeHandBut(at);
            if (handRun.breaks()) {
                dropFromHand(at);
                gone = true;
            }
            at = placeOfLeastAbove(number);
        }
        return gone;
    }

    private int placeOfLeastAbove(int number) {
        int place = NOTHING;
        for (int i = 0; i < handSize; i++) {
            if (inHand[i] > number && (place == NOTHING || inHand[i] < inHand[place])) {
                place = i;
            }
        }
        return place;
    }

    private void dropFromHand(int place) {
        for (int i = place; i + 1 < handSize; i++) {
            inHand[i] = inHand[i + 1];
        }
        handSize--;
    }

    /** What the numbers of blows mean. */
    private static final class Blow {
        static boolean exists(int number, int endTick) {
            if (number < 0) {
                return false;
            }
            if (isLoss(number)) {
                return tickOf(number) < endTick && hostOf(number) != targetOf(number);
            }
            return tickOf(number) <= endTick;
        }

        static boolean isLoss(int number) {
            return number < FIRST_FALL;
        }

        static int tickOf(int number) {
            return isLoss(number) ? number >> 4 : (number - FIRST_FALL) >> 2;
        }

        /** The host that sends what is lost, or that falls. */
        static int hostOf(int number) {
            return isLoss(number) ? (number >> 2) & 3 : number & 3;
        }

        static int targetOf(int number) {
            return number & 3;
        }
    }

    private static final class Rule {
        final int host;
        final int kind;
        final int head;
        final int a;
        final int b;
        final int not;
        final int to;
        final int needed;
        final int denied;
        int price = PUT_IN;

        Rule(int host, int kind, int head, int a, int b, int not, int to) {
            this.host = host;
            this.kind = kind;
            this.head = head;
            this.a = a;
            this.b = b == NOTHING ? a : b;
            this.not = not;
            this.to = to;
            needed = (1 << this.a) | (1 << this.b);
            denied = not == NOTHING ? 0 : 1 << not;
        }

        boolean isSpare() {
            return price != PUT_IN;
        }

        /** Whether it works for a host that has these facts. */
        boolean works(int byHost, int facts) {
            return (host == ALL || host == byHost) && (facts & needed) == needed && (facts & denied) == 0;
        }
    }

    /** The rules and the layers that they leave. */
    private static final class Rules {
        final ArrayList<Rule> list = new ArrayList<Rule>();
        final int[] layers = new int[FACTS];
        private final int[] tried = new int[FACTS];

        /** Takes the rule for which hasLayersWith was asked just now. */
        void take(Rule more) {
            list.add(more);
            System.arraycopy(tried, 0, layers, 0, FACTS);
        }

        /**
         * Whether there are layers with one more rule. What a way of rules without a ring lifts is
         * lifted in fewer rounds than there are facts; a ring with a NOT lifts for ever.
         */
        boolean hasLayersWith(Rule more) {
            Arrays.fill(tried, 0);
            boolean lifted = true;
            for (int round = 0; lifted && round < FACTS; round++) {
                lifted = lift(more);
                for (int i = 0; i < list.size(); i++) {
                    lifted = lift(list.get(i)) || lifted;
                }
            }
            return !lifted;
        }

        private boolean lift(Rule rule) {
            if (rule.kind != NOW) {
                return false;
            }
            int least = Math.max(tried[rule.a], tried[rule.b]);
            if (rule.not != NOTHING) {
                least = Math.max(least, tried[rule.not] + 1);
            }
            if (tried[rule.head] >= least) {
                return false;
            }
            tried[rule.head] = least;
            return true;
        }

        int countSpares() {
            return list.size() - Integer.bitCount(notSpare());
        }

        /** The rules that count, as bits. */
        int notSpare() {
            int bits = 0;
            for (int i = 0; i < list.size(); i++) {
                if (!list.get(i).isSpare()) {
                    bits |= 1 << i;
                }
            }
            return bits;
        }
    }

    /**
     * What a host makes of the facts with which it begins a tick. A search asks the same again and
     * again, so each answer is kept till other rules count.
     */
    private static final class Steps {
        private final Rules rules;
        final int[] settled = new int[HOSTS * FACT_SETS];
        final int[] kept = new int[HOSTS * FACT_SETS];
        /** Letters as facts of all hosts: of the one to which they go. */
        final int[] sent = new int[HOSTS * FACT_SETS];
        private int counting = 0;

        Steps(Rules rules) {
            this.rules = rules;
            Arrays.fill(settled, NOTHING);
        }

        void countOnly(int ruleBits) {
            counting = ruleBits;
            Arrays.fill(settled, NOTHING);
        }

        boolean counts(int rule) {
            return ((counting >> rule) & 1) == 1;
        }

        static int placeOf(int host, int begin) {
            return FACT_SETS * host + begin;
        }

        boolean knows(int place) {
            return settled[place] != NOTHING;
        }

        void learn(int host, int begin) {
            int facts = settle(host, begin);
            int keeps = 0;
            int sends = 0;
            for (int i = 0; i < rules.list.size(); i++) {
                Rule rule = rules.list.get(i);
                if (!counts(i) || !rule.works(host, facts)) {
                    continue;
                }
                if (rule.kind == KEPT) {
                    keeps |= 1 << rule.head;
                } else if (rule.kind == SENT) {
                    sends |= bitOf(rule.to, rule.head);
                }
            }
            int place = placeOf(host, begin);
            settled[place] = facts;
            kept[place] = keeps;
            sent[place] = sends;
        }

        /** Each round but the last of a layer brings a fact, so there are no more than facts. */
        private int settle(int host, int begin) {
            int facts = begin;
            for (int layer = 0; layer < FACTS; layer++) {
                boolean more = true;
                for (int round = 0; more && round < FACTS; round++) {
                    int before = facts;
                    for (int i = 0; i < rules.list.size(); i++) {
                        Rule rule = rules.list.get(i);
                        boolean due = rule.kind == NOW && rules.layers[rule.head] == layer && counts(i);
                        if (due && rule.works(host, facts)) {
                            facts |= 1 << rule.head;
                        }
                    }
                    more = facts != before;
                }
            }
            return facts;
        }
    }

    /** All that blows leave as it is. */
    private static final class World {
        final Rules rules = new Rules();
        final Steps steps = new Steps(rules);
        int endTick = 4;
        int firstFacts = 0;
        int ifBit = 1;
        int thenHost = 0;
        int thenBit = 1;
    }

    /** What happens, tick by tick, with some blows. */
    private static final class Run {
        private final World world;
        private final int[] begins = new int[TICKS + 1];
        private final int[] has = new int[TICKS];
        private final int[] sends = new int[TICKS * HOSTS];
        private final int[] lost = new int[TICKS * HOSTS];
        private final int[] fallTicks = new int[HOSTS];
        private int changedFrom = 0;

        Run(World world) {
            this.world = world;
        }

        void strikeNone() {
            Arrays.fill(lost, 0);
            Arrays.fill(fallTicks, TICKS);
            changedFrom = 0;
        }

        void strike(int number) {
            int tick = Blow.tickOf(number);
            int host = Blow.hostOf(number);
            if (Blow.isLoss(number)) {
                lost[HOSTS * tick + host] |= LAST_FACT_SET << (FACTS * Blow.targetOf(number));
            } else {
                fallTicks[host] = Math.min(fallTicks[host], tick);
            }
            changedFrom = Math.min(changedFrom, tick);
        }

        /** One blow more than another run that has been run: it changes nothing ahead of its tick. */
        void strikeLike(Run other, int number) {
            System.arraycopy(other.begins, 0, begins, 0, begins.length);
            System.arraycopy(other.has, 0, has, 0, has.length);
            System.arraycopy(other.sends, 0, sends, 0, sends.length);
            System.arraycopy(other.lost, 0, lost, 0, lost.length);
            System.arraycopy(other.fallTicks, 0, fallTicks, 0, fallTicks.length);
            changedFrom = TICKS;
            strike(number);
        }

        /** Whether one more blow hits anything: if not, the run with it is this one. */
        boolean feels(int number) {
            int tick = Blow.tickOf(number);
            int host = Blow.hostOf(number);
            if (Blow.isLoss(number)) {
                return sentFacts(tick, host, Blow.targetOf(number)) != 0;
            }
            return fallTicks[host] > tick;
        }

        /** Runs all ticks that the blows may have changed. */
        void goOn() {
            begins[0] = world.firstFacts;
            for (int tick = changedFrom; tick <= world.endTick; tick++) {
                has[tick] = 0;
                begins[tick + 1] = 0;
                for (int host = 0; host < HOSTS; host++) {
                    sends[HOSTS * tick + host] = 0;
                    if (fallTicks[host] > tick) {
                        live(host, tick);
                    }
                }
            }
            changedFrom = TICKS;
        }

        private void live(int host, int tick) {
            Steps steps = world.steps;
            int begin = share(begins[tick], host);
            int place = Steps.placeOf(host, begin);
            if (!steps.knows(place)) {
                steps.learn(host, begin);
            }
            int way = HOSTS * tick + host;
            sends[way] = steps.sent[place];
            has[tick] |= steps.settled[place] << (FACTS * host);
            begins[tick + 1] |= steps.kept[place] << (FACTS * host);
            begins[tick + 1] |= steps.sent[place] & ~lost[way];
        }

        boolean breaks() {
            int atEnd = has[world.endTick];
            boolean owed = (atEnd & world.ifBit) != 0 && (atEnd & world.thenBit) == 0;
            return owed && fallTicks[world.thenHost] > world.endTick;
        }

        int factsOf(int host, int tick) {
            return share(has[tick], host);
        }

        int sentFacts(int tick, int from, int to) {
            return share(sends[HOSTS * tick + from], to);
        }

        int reason(int host, int tick, int fact) {
            int bit = bitOf(host, fact);
            if ((has[tick] & bit) == 0) {
                return NONE;
            }
            if (tick == 0 && (world.firstFacts & bit) != 0) {
                return 0;
            }
            if (tick > 0) {
                int kept = leastRule(KEPT, fact, host, factsOf(host, tick - 1));
                if (kept != NOTHING) {
                    return 200 + kept;
                }
                int letter = leastLetter(host, tick - 1, fact);
                if (letter != NOTHING) {
                    return 300 + letter;
                }
            }
            int now = leastRule(NOW, fact, host, factsOf(host, tick));
            return now == NOTHING ? NONE : 100 + now;
        }

        private int leastRule(int kind, int fact, int host, int facts) {
            for (int i = 0; i < world.rules.list.size(); i++) {
                Rule rule = world.rules.list.get(i);
                boolean fits = rule.kind == kind && rule.head == fact && world.steps.counts(i);
                if (fits && rule.works(host, facts)) {
                    return i;
                }
            }
            return NOTHING;
        }

        /** 20 RULE + HOST of the letter with a fact that was sent to a host and not lost. */
        private int leastLetter(int to, int tick, int fact) {
            int bit = bitOf(to, fact);
            for (int i = 0; i < world.rules.list.size(); i++) {
                Rule rule = world.rules.list.get(i);
                boolean fits = rule.kind == SENT && rule.head == fact && rule.to == to;
                if (!fits || !world.steps.counts(i)) {
                    continue;
                }
                for (int from = 0; from < HOSTS; from++) {
                    boolean comes = (lost[HOSTS * tick + from] & bit) == 0;
                    if (comes && rule.works(from, factsOf(from, tick))) {
                        return 20 * i + from;
                    }
                }
            }
            return NOTHING;
        }

        private static int share(int factsOfAll, int host) {
            return (factsOfAll >> (FACTS * host)) & LAST_FACT_SET;
        }
    }

    /** The bounds within which blows are sought. */
    private static final class Limits {
        int losses = 0;
        int falls = 0;
        int lastTick = 0;

        boolean allowOne(int number, int endTick) {
            int most = Blow.isLoss(number) ? losses : falls;
            return most > 0 && Blow.tickOf(number) <= lastTick && Blow.exists(number, endTick);
        }

        /** Whether two that are allowed each by itself are allowed together. */
        boolean allowBoth(int number, int other) {
            if (Blow.isLoss(number) != Blow.isLoss(other)) {
                return true;
            }
            return (Blow.isLoss(number) ? losses : falls) > 1;
        }

        int countSets(int endTick) {
            int lossTicks = Math.min(lastTick + 1, endTick);
            int fallTicks = Math.min(lastTick, endTick) + 1;
            int ofLosses = losses > 0 ? lossTicks * HOSTS * (HOSTS - 1) : 0;
            int ofFalls = falls > 0 ? fallTicks * HOSTS : 0;
            int sets = 1 + ofLosses + ofFalls + ofLosses * ofFalls;
            if (losses > 1) {
                sets += ofLosses * (ofLosses - 1) / 2;
            }
            if (falls > 1) {
                sets += ofFalls * (ofFalls - 1) / 2;
            }
            return sets;
        }
    }

    /** Goes through the sets of blows within the limits, the smallest ones first. */
    private static final class Search {
        private final World world;
        private final Limits limits;
        private final Run none;
        private final Run one;
        private final Run two;
        private final int[] within = new int[MOST_BLOWS];
        private final int[] breaksWith = new int[BLOW_NUMBERS];
        private final int[] spares = new int[MOST_SPARES];
        private int withinSize = 0;
        private int spareSize = 0;
        boolean known = false;
        int breakSize = SAFE;
        int least = NOTHING;
        int other = NOTHING;

        Search(World world, Limits limits) {
            this.world = world;
            this.limits = limits;
            none = new Run(world);
            one = new Run(world);
            two = new Run(world);
        }

        /** In how many of the smallest breaks a blow stands, as of the latest look. */
        int standsIn(int number) {
            return number >= 0 && number < BLOW_NUMBERS ? breaksWith[number] : 0;
        }

        void look() {
            if (known) {
                return;
            }
            known = true;
            breakSize = SAFE;
            least = NOTHING;
            other = NOTHING;
            Arrays.fill(breaksWith, 0);
            listWithin();
            none.strikeNone();
            none.goOn();
            if (none.breaks()) {
                breakSize = 0;
                return;
            }
            lookAtOnes();
            if (breakSize == SAFE) {
                lookAtPairs();
            }
        }

        private void listWithin() {
            withinSize = 0;
            for (int number = 0; number < BLOW_NUMBERS && withinSize < MOST_BLOWS; number++) {
                if (limits.allowOne(number, world.endTick)) {
                    within[withinSize] = number;
                    withinSize++;
                }
            }
        }

        /** It does not break without blows here, so one that is not felt does not break it. */
        private void lookAtOnes() {
            for (int i = 0; i < withinSize; i++) {
                int number = within[i];
                if (none.feels(number)) {
                    one.strikeLike(none, number);
                    one.goOn();
                    if (one.breaks()) {
                        breaksWith[number]++;
                        noteBreak(1, number, NOTHING);
                    }
                }
            }
        }

        /** No single blow breaks here, so a second one that is not felt does not either. */
        private void lookAtPairs() {
            for (int i = 0; i < withinSize; i++) {
                int number = within[i];
                one.strikeLike(none, number);
                one.goOn();
                for (int j = i + 1; j < withinSize; j++) {
                    int second = within[j];
                    if (!limits.allowBoth(number, second) || !one.feels(second)) {
                        continue;
                    }
                    two.strikeLike(one, second);
                    two.goOn();
                    if (two.breaks()) {
                        breaksWith[number]++;
                        breaksWith[second]++;
                        noteBreak(2, number, second);
                    }
                }
            }
        }

        /** The sets come by their numbers, so the first one is THE BREAK. */
        private void noteBreak(int size, int number, int second) {
            if (breakSize == SAFE) {
                breakSize = size;
                least = number;
                other = second;
            }
        }

        int cheapestMend() {
            int counting = world.rules.notSpare();
            int best = NONE;
            int bestSum = MOST_SPARES * MOST_PRICE + 1;
            listSpares();
            listWithin();
            for (int set = 0; set < 1 << spareSize; set++) {
                int sum = priceOf(set);
                if (sum < bestSum) {
                    world.steps.countOnly(counting | rulesOf(set));
                    if (holdsAgainstOne()) {
                        best = set;
                        bestSum = sum;
                    }
                }
            }
            world.steps.countOnly(counting);
            return best;
        }

        private void listSpares() {
            spareSize = 0;
            for (int i = 0; i < world.rules.list.size() && spareSize < MOST_SPARES; i++) {
                if (world.rules.list.get(i).isSpare()) {
                    spares[spareSize] = i;
                    spareSize++;
                }
            }
        }

        private int priceOf(int set) {
            int sum = 0;
            for (int i = 0; i < spareSize; i++) {
                if (((set >> i) & 1) == 1) {
                    sum += world.rules.list.get(spares[i]).price;
                }
            }
            return sum;
        }

        private int rulesOf(int set) {
            int bits = 0;
            for (int i = 0; i < spareSize; i++) {
                if (((set >> i) & 1) == 1) {
                    bits |= 1 << spares[i];
                }
            }
            return bits;
        }

        private boolean holdsAgainstOne() {
            none.strikeNone();
            none.goOn();
            boolean holds = !none.breaks();
            for (int i = 0; holds && i < withinSize; i++) {
                if (none.feels(within[i])) {
                    one.strikeLike(none, within[i]);
                    one.goOn();
                    holds = !one.breaks();
                }
            }
            return holds;
        }
    }
}
