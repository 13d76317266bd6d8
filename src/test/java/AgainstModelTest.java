import java.util.Random;

/** Long runs of calls, made from fixed seeds, each answer compared with that of PlainModel. */
public final class AgainstModelTest {
    private static int wrong = 0;
    private static final int[] seekAnswers = new int[10];
    private static int mended = 0;
    private static int shrunk = 0;

    private final Random random;
    private final BlowSeeker real = new BlowSeeker();
    private final PlainModel model = new PlainModel();
    private final int facts;
    private final boolean wild;
    private final int seed;
    private int calls = 0;

    private AgainstModelTest(int seed) {
        this.seed = seed;
        random = new Random(seed);
        facts = 2 + random.nextInt(7);
        wild = random.nextInt(4) == 0;
    }

    public static void main(String[] args) {
        int runs = args.length > 0 ? Integer.parseInt(args[0]) : 600;
        for (int seed = 0; seed < runs && wrong < 20; seed++) {
            new AgainstModelTest(seed).goThrough();
        }
        System.out.println("seek answered 0, 1, 2, 9: " + seekAnswers[0] + ", " + seekAnswers[1] + ", "
                + seekAnswers[2] + ", " + seekAnswers[9] + "; mended " + mended + ", shrunk " + shrunk);
        boolean thin = seekAnswers[0] < 20 || seekAnswers[1] < 20 || seekAnswers[2] < 20 || seekAnswers[9] < 20
                || mended < 20 || shrunk < 20;
        if (thin) {
            System.out.println("the runs show too little");
        }
        System.out.println(wrong + " answers are not as due");
        if (wrong != 0 || thin) {
            System.exit(1);
        }
    }

    private void due(String call, int got, int want) {
        calls++;
        if (got != want) {
            wrong++;
            System.out.println("seed " + seed + ", call " + calls + ": " + call + " answered " + got + ", due is " + want);
        }
    }

    private int to(int least, int most) {
        if (wild && random.nextInt(12) == 0) {
            int[] far = {least - 1, most + 1, Integer.MIN_VALUE, Integer.MAX_VALUE, -1, 200, 4, 8, -2};
            return far[random.nextInt(far.length)];
        }
        return least + random.nextInt(most - least + 1);
    }

    private int fact() {
        return to(0, facts - 1);
    }

    private int factOrNone() {
        return random.nextInt(3) == 0 ? fact() : -1;
    }

    private int blowNumber() {
        int pick = random.nextInt(20);
        if (pick == 0) {
            return to(-3, 260);
        }
        return pick < 8 ? to(200, 227) : to(0, 95);
    }

    private void goThrough() {
        setUp();
        for (int i = 0; i < 60 && calls < 500; i++) {
            oneCall(random.nextInt(22));
        }
    }

    private void setUp() {
        if (random.nextInt(3) > 0) {
            weave();
            return;
        }
        end();
        for (int i = random.nextInt(4); i >= 0; i--) {
            first();
        }
        for (int i = random.nextInt(4); i > 0; i--) {
            int fact = fact();
            put(random.nextBoolean() ? -1 : to(0, 3), 1, fact, fact, -1, -1, 0);
        }
        int many = 3 + random.nextInt(9);
        for (int i = 0; i < many; i++) {
            rule();
        }
        bounds();
        promise();
        for (int i = random.nextInt(7) - 1; i > 0; i--) {
            spare();
        }
        seek();
        mend();
    }

    /** A fact that goes to another host by ways of several kinds: there fewest blows are one, two or none. */
    private void weave() {
        int a = to(0, 3);
        int b = (a + 1 + random.nextInt(3)) % 4;
        end();
        due("first(" + a + ", 0, 1)", real.first(a, 0, 1), model.first(a, 0, 1));
        put(a, 1, 0, 0, -1, -1, 0);
        put(-1, 1, 1, 1, -1, random.nextInt(4) == 0 ? 3 : -1, 0);
        int heed = random.nextBoolean() ? 3 : -1;
        for (int i = 1 + random.nextInt(4); i > 0; i--) {
            int by = to(0, 3);
            if (by == a || by == b) {
                put(a, 2, 1, 0, -1, heed, b);
            } else {
                put(a, 2, 2, 0, -1, heed, by);
                put(by, 2, 1, 2, -1, -1, b);
            }
        }
        put(b, random.nextInt(3), 3, 1, -1, -1, 0);
        rule();
        due("promise(" + a + ", 0, " + b + ", 1)", real.promise(a, 0, b, 1), model.promise(a, 0, b, 1));
        for (int tries = 0; tries < 2; tries++) {
            bounds();
            seek();
        }
        for (int i = random.nextInt(6); i > 0; i--) {
            spare();
        }
        mend();
    }

    private void oneCall(int pick) {
        switch (pick) {
            case 0: if (random.nextInt(4) == 0) end(); break;
            case 1: rule(); break;
            case 2: spare(); break;
            case 3: first(); break;
            case 4: promise(); break;
            case 5: bounds(); break;
            case 6: case 7: blow(); break;
            case 8: if (random.nextInt(3) == 0) due("clear()", real.clear(), model.clear()); break;
            case 9: case 10: facts(); break;
            case 11: letters(); break;
            case 12: due("broken()", real.broken(), model.broken()); break;
            case 13: shrink(); break;
            case 14: case 15: why(); break;
            case 16: layers(); break;
            case 17: seek(); break;
            case 18: due("sets()", real.sets(), model.sets()); break;
            case 19: weak(); break;
            case 20: mend(); break;
            default: counts();
        }
    }

    private void end() {
        int t = to(1, 6);
        due("end(" + t + ")", real.end(t), model.end(t));
    }

    private void rule() {
        int kind = random.nextInt(3) == 0 ? 2 : to(0, 2);
        int to = kind == 2 || random.nextInt(15) == 0 ? to(0, 3) : 0;
        put(random.nextBoolean() ? -1 : to(0, 3), kind, fact(), fact(), factOrNone(), factOrNone(), to);
    }

    private void put(int host, int kind, int head, int a, int b, int not, int to) {
        due("rule(" + host + ", " + kind + ", " + head + ", " + a + ", " + b + ", " + not + ", " + to + ")",
                real.rule(host, kind, head, a, b, not, to), model.rule(host, kind, head, a, b, not, to));
    }

    private void spare() {
        int rule = to(0, 11);
        int price = random.nextInt(4) == 0 ? -1 : random.nextBoolean() ? to(0, 3) : to(-1, 100);
        due("spare(" + rule + ", " + price + ")", real.spare(rule, price), model.spare(rule, price));
    }

    private void first() {
        int host = to(0, 3);
        int fact = fact();
        int is = random.nextInt(4) == 0 ? to(0, 1) : 1;
        due("first(" + host + ", " + fact + ", " + is + ")", real.first(host, fact, is), model.first(host, fact, is));
    }

    /** Mostly of facts that are there at the end, so that blows have something to break. */
    private void promise() {
        int a = to(0, 3);
        int p = fact();
        int b = to(0, 3);
        int q = fact();
        for (int tries = 0; tries < 20 && !atEnd(a, p); tries++) {
            a = to(0, 3);
            p = fact();
        }
        boolean kept = random.nextInt(6) != 0;
        for (int tries = 0; tries < 40 && (a == b && p == q || kept != atEnd(b, q)); tries++) {
            b = to(0, 3);
            q = fact();
        }
        due("promise(" + a + ", " + p + ", " + b + ", " + q + ")", real.promise(a, p, b, q), model.promise(a, p, b, q));
    }

    private boolean atEnd(int host, int fact) {
        return fact >= 0 && fact < 8 && (Math.max(0, model.facts(host, model.count(3))) >> fact) % 2 == 1;
    }

    private void bounds() {
        int l = to(0, 2);
        int f = to(0, 2);
        int t = random.nextBoolean() ? to(0, 2) : to(0, 6);
        due("bounds(" + l + ", " + f + ", " + t + ")", real.bounds(l, f, t), model.bounds(l, f, t));
    }

    private void blow() {
        int number = blowNumber();
        due("blow(" + number + ")", real.blow(number), model.blow(number));
    }

    private void facts() {
        int host = to(0, 3);
        int tick = to(0, 6);
        due("facts(" + host + ", " + tick + ")", real.facts(host, tick), model.facts(host, tick));
    }

    private void letters() {
        for (int i = 0; i < 4; i++) {
            int tick = to(0, 6);
            int from = to(0, 3);
            int to = to(0, 3);
            due("letters(" + tick + ", " + from + ", " + to + ")", real.letters(tick, from, to), model.letters(tick, from, to));
        }
    }

    private void why() {
        for (int i = 0; i < 6; i++) {
            int host = to(0, 3);
            int tick = to(0, 6);
            int fact = fact();
            due("why(" + host + ", " + tick + ", " + fact + ")", real.why(host, tick, fact), model.why(host, tick, fact));
        }
    }

    private void layers() {
        for (int fact = -1; fact <= 8; fact++) {
            due("layer(" + fact + ")", real.layer(fact), model.layer(fact));
        }
    }

    private void seek() {
        int got = real.seek();
        due("seek()", got, model.seek());
        if (got >= 0 && got < seekAnswers.length) {
            seekAnswers[got]++;
        }
        for (int i = -1; i <= 2; i++) {
            due("found(" + i + ")", real.found(i), model.found(i));
        }
    }

    private void weak() {
        int got = real.seek();
        due("seek()", got, model.seek());
        for (int i = 0; i < 2; i++) {
            int number = i == 0 && got != 9 && got > 0 ? real.found(0) : blowNumber();
            due("weak(" + number + ")", real.weak(number), model.weak(number));
        }
    }

    /** Of a break that seek finds with others beside it there is mostly something to shrink. */
    private void shrink() {
        if (random.nextBoolean()) {
            due("clear()", real.clear(), model.clear());
            seek();
            for (int i = 1; i >= 0; i--) {
                blow();
                int number = model.found(i);
                due("blow(" + number + ")", real.blow(number), model.blow(number));
            }
        }
        due("broken()", real.broken(), model.broken());
        int got = real.shrink();
        due("shrink()", got, model.shrink());
        if (got > 0) {
            shrunk++;
        }
        counts();
    }

    private void mend() {
        int got = real.mend();
        due("mend()", got, model.mend());
        if (got > 0) {
            mended++;
        }
    }

    private void counts() {
        for (int what = -1; what <= 5; what++) {
            due("count(" + what + ")", real.count(what), model.count(what));
        }
        for (int i = -1; i <= 4; i++) {
            due("hand(" + i + ")", real.hand(i), model.hand(i));
            due("found(" + i + ")", real.found(i), model.found(i));
        }
    }
}
