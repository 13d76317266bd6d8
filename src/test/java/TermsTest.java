/** The sentences of the document's terms, parts 1 to 3, one after the other, each at its edges. */
public final class TermsTest {
    private static final int NONE = -1, BAD = -2, STATE = -3, FULL = -4;
    private static final int NOW = 0, KEPT = 1, SENT = 2;
    private static int wrong = 0;
    private static int asked = 0;

    public static void main(String[] args) {
        endAtFirst();
        endMoves();
        ticksUpToEnd();
        twelveRules();
        rulesOfOneHostOrAll();
        bodies();
        nots();
        spareRulesDoNotCount();
        firstAtTickZero();
        lastFactOfLastHost();
        leastLayers();
        layersRefused();
        ringsOfAllLengths();
        fallAtEachTick();
        lettersThatCome();
        everyLetter();
        keptOnes();
        layerByLayer();
        allLayers();
        againAndAgain();
        lossOfAllLetters();
        everyLoss();
        promiseAtFirst();
        promiseAtEnd();
        boundsOfEach();
        twoTogether();
        noLossToItself();
        ticksUpToT();
        breakWithTheFewest();
        breakByTheLastBlow();
        breakOfLossAndFall();
        breakOfTwoFalls();
        weakOfAll();
        foundLatest();
        shrinkByNumbers();
        shrinkFour();
        shrinkFourTimes();
        mendNeedsBoth();
        mendWithinBounds();
        mendLeastSumThenBits();
        mendFirstFive();
        whyOrder();
        whyLeast();
        whyNotByLostLetters();
        whyNotByLettersToOthers();
        whyNear();
        whyFar();
        setsOfAll();
        blowsInHand();
        countsAtTheirMost();
        System.out.println(asked + " answers asked, " + wrong + " not as due");
        if (wrong != 0) {
            System.exit(1);
        }
    }

    private static void due(String call, int got, int want) {
        asked++;
        if (got != want) {
            wrong++;
            System.out.println(call + " answered " + got + ", due is " + want);
        }
    }

    private static BlowSeeker ending(int end) {
        BlowSeeker x = new BlowSeeker();
        x.end(end);
        return x;
    }

    private static void keep(BlowSeeker x, int host, int fact) {
        x.rule(host, KEPT, fact, fact, -1, -1, 0);
    }

    private static void send(BlowSeeker x, int host, int fact, int to) {
        x.rule(host, SENT, fact, fact, -1, -1, to);
    }

    // ---- part 1

    /** "END 1 .. 6; 4 at first", "END: what it was". */
    private static void endAtFirst() {
        BlowSeeker x = new BlowSeeker();
        due("1: END at first", x.count(3), 4);
        int was = 4;
        for (int t : new int[] {1, 6, 2, 5, 3, 4, 4}) {
            due("2: end(" + t + ")", x.end(t), was);
            due("2: END", x.count(3), t);
            was = t;
        }
        x.blow(1);
        x.blow(200);
        due("2: no blows are in hand then", x.end(4), 4);
        due("2: no blows are in hand then", x.count(2), 0);
        due("2: no blows are in hand then", x.hand(0), NONE);
        due("2: they may come again", x.blow(1), 1);
    }

    /** What was looked at and sought with one END is not what there is with another one. */
    private static void endMoves() {
        BlowSeeker x = lossesNeeded(1);
        x.rule(2, KEPT, 3, 3, -1, -1, 0);
        x.first(2, 3, 1);
        x.bounds(1, 0, 6);
        due("10: at END 1", x.facts(2, 1), 8);
        due("15: one LOSS at END 1", x.seek(), 1);
        due("18: that LOSS", x.weak(1), 1);
        x.end(6);
        due("10: at END 6", x.facts(2, 6), 8);
        due("11: at END 6", x.letters(6, 0, 1), 1);
        due("13: at END 6", x.why(2, 6, 3), 202);
        due("18: SAFE at END 6", x.weak(1), 0);
        due("15: SAFE at END 6", x.seek(), 9);
        x.end(1);
        due("12: at END 1", x.broken(), 0);
        due("15: one LOSS at END 1", x.seek(), 1);
        due("10: beyond END 1", x.facts(2, 2), NONE);
    }

    /** "TICKS 0 .. END": what is kept is there at each of them, at the last one, too. */
    private static void ticksUpToEnd() {
        for (int end = 1; end <= 6; end++) {
            BlowSeeker x = ending(end);
            keep(x, 3, 7);
            x.first(3, 7, 1);
            for (int tick = 0; tick <= end; tick++) {
                due("10: END " + end + ", facts(3, " + tick + ")", x.facts(3, tick), 128);
            }
            due("10: beyond END " + end, x.facts(3, end + 1), NONE);
            due("13: beyond END " + end, x.why(3, end + 1, 7), NONE);
            due("11: beyond END " + end, x.letters(end + 1, 3, 3), NONE);
        }
    }

    /** "RULES are numbered from 0 on, 12 at most", "FULL". */
    private static void twelveRules() {
        for (int kind = NOW; kind <= SENT; kind++) {
            BlowSeeker x = new BlowSeeker();
            for (int i = 0; i < 12; i++) {
                due("3: rule " + i + " of kind " + kind, x.rule(-1, kind, 1, 0, -1, -1, 0), i);
            }
            due("3: the thirteenth", x.rule(-1, kind, 1, 0, -1, -1, 0), FULL);
            x.spare(3, 1);
            due("3: a spare one takes a place", x.rule(-1, kind, 1, 0, -1, -1, 0), FULL);
            due("21: twelve", x.count(0), 12);
        }
    }

    /** "for one HOST or all (-1)". */
    private static void rulesOfOneHostOrAll() {
        for (int host = -1; host < 4; host++) {
            BlowSeeker x = ending(1);
            x.rule(host, NOW, 1, 0, -1, -1, 0);
            x.rule(host, KEPT, 2, 0, -1, -1, 0);
            x.rule(host, SENT, 3, 0, -1, -1, 0);
            for (int each = 0; each < 4; each++) {
                x.first(each, 0, 1);
            }
            for (int each = 0; each < 4; each++) {
                boolean its = host == -1 || host == each;
                due("3: NOW of " + host + " for " + each, x.facts(each, 0), its ? 3 : 1);
                due("3: SENT of " + host + " from " + each, x.letters(0, each, 0), its ? 1 : 0);
                due("3: KEPT of " + host + " for " + each, x.facts(each, 1), (its ? 4 : 0) + (each == 0 ? 8 : 0));
            }
        }
    }

    /** "a BODY of one or two FACTS": each of the two is needed, and one may stand twice. */
    private static void bodies() {
        for (int kind = NOW; kind <= SENT; kind++) {
            for (int has = 0; has < 4; has++) {
                BlowSeeker x = ending(1);
                x.rule(0, kind, 4, 0, 1, -1, 0);
                x.rule(0, kind, 5, 0, -1, -1, 0);
                x.rule(0, kind, 6, 1, 1, -1, 0);
                x.first(0, 0, has & 1);
                x.first(0, 1, has >> 1);
                int heads = (has == 3 ? 16 : 0) + ((has & 1) != 0 ? 32 : 0) + ((has & 2) != 0 ? 64 : 0);
                due("10: kind " + kind + " of " + has, x.facts(0, kind == NOW ? 0 : 1), kind == NOW ? heads + has : heads);
            }
        }
    }

    /** "and perhaps a NOT": also one that stands in the BODY, and, of KEPT and SENT, the HEAD. */
    private static void nots() {
        for (int kind = NOW; kind <= SENT; kind++) {
            BlowSeeker x = ending(1);
            x.rule(0, kind, 4, 0, -1, 1, 0);
            x.rule(0, kind, 5, 0, -1, 2, 0);
            x.rule(0, kind, 6, 0, -1, 0, 0);
            x.rule(0, kind, 7, 0, 2, 2, 0);
            x.first(0, 0, 1);
            x.first(0, 2, 1);
            due("10: a NOT, kind " + kind, x.facts(0, kind == NOW ? 0 : 1), kind == NOW ? 16 + 5 : 16);
        }
        for (int kind = KEPT; kind <= SENT; kind++) {
            BlowSeeker x = ending(3);
            keep(x, 0, 0);
            x.rule(0, kind, 1, 0, -1, 1, 0);
            x.first(0, 0, 1);
            for (int tick = 0; tick <= 3; tick++) {
                due("10: NOT the HEAD, kind " + kind + ", tick " + tick, x.facts(0, tick), tick % 2 == 0 ? 1 : 3);
            }
        }
    }

    /** "it does not count, till it is PUT IN": of each KIND, at PRICES 0 and 100. */
    private static void spareRulesDoNotCount() {
        for (int kind = NOW; kind <= SENT; kind++) {
            for (int price = 0; price <= 100; price += 100) {
                BlowSeeker x = ending(1);
                int tick = kind == NOW ? 0 : 1;
                int base = kind == NOW ? 1 : 0;
                x.rule(0, kind, 1, 0, -1, -1, 0);
                x.first(0, 0, 1);
                due("4: not SPARE", x.facts(0, tick), base + 2);
                due("4: what it was", x.spare(0, price), -1);
                due("4: SPARE at " + price, x.facts(0, tick), base);
                due("13: no WHY", x.why(0, tick, 1), NONE);
                due("11: no LETTER", x.letters(0, 0, 0), 0);
                due("21: SPARE ones", x.count(1), 1);
                due("21: it is a RULE", x.count(0), 1);
                due("4: the same again", x.spare(0, price), price);
                due("4: PUT IN", x.spare(0, -1), price);
                due("21: SPARE ones", x.count(1), 0);
                due("4: it counts", x.facts(0, tick), base + 2);
            }
        }
    }

    /** "FIRST are FACTS of HOSTS at TICK 0": at no other one. */
    private static void firstAtTickZero() {
        BlowSeeker x = new BlowSeeker();
        for (int host = 0; host < 4; host++) {
            for (int fact = 0; fact < 8; fact++) {
                due("5: first(" + host + ", " + fact + ", 1)", x.first(host, fact, 1), 0);
                due("10: at tick 0", x.facts(host, 0), (2 << fact) - 1);
                due("10: at tick 1", x.facts(host, 1), 0);
                due("13: WHY", x.why(host, 0, fact), 0);
                due("13: not at tick 1", x.why(host, 1, fact), NONE);
            }
        }
        due("21: all are FIRST", x.count(4), 32);
        for (int fact = 0; fact < 8; fact++) {
            due("5: first(2, " + fact + ", 0)", x.first(2, fact, 0), 1);
            due("5: again", x.first(2, fact, 0), 0);
        }
        due("21: those of three hosts", x.count(4), 24);
        due("10: none of host 2", x.facts(2, 0), 0);
        due("10: all of host 3", x.facts(3, 0), 255);
    }

    /** HOST 3's FACT 7 is the last one: nothing is lost at that edge. */
    private static void lastFactOfLastHost() {
        BlowSeeker x = ending(6);
        keep(x, 3, 7);
        x.rule(3, SENT, 7, 7, -1, -1, 2);
        x.rule(3, NOW, 6, 7, -1, -1, 0);
        x.rule(2, SENT, 7, 7, -1, -1, 3);
        due("5: not FIRST", x.first(3, 7, 1), 0);
        due("5: FIRST", x.first(3, 7, 1), 1);
        due("10: facts(3, 0)", x.facts(3, 0), 192);
        due("10: facts(3, 6)", x.facts(3, 6), 192);
        due("10: facts(2, 6)", x.facts(2, 6), 128);
        due("10: facts(1, 6)", x.facts(1, 6), 0);
        due("11: letters(6, 3, 2)", x.letters(6, 3, 2), 1);
        due("13: why(3, 6, 7)", x.why(3, 6, 7), 200);
        due("13: why(3, 6, 6)", x.why(3, 6, 6), 102);
        due("13: why(2, 6, 7)", x.why(2, 6, 7), 323);
        x.promise(3, 7, 2, 7);
        due("12: broken", x.broken(), 0);
        due("8: the last LOSS", x.blow(94), 1);
        due("12: broken", x.broken(), 1);
        x.bounds(1, 1, 6);
        due("15: seek", x.seek(), 1);
        due("16: found", x.found(0), 94);
        due("18: weak(94)", x.weak(94), 1);
        due("18: weak(227)", x.weak(227), 0);
        x.promise(2, 7, 3, 7);
        x.spare(3, 1);
        due("15: both keep it, or one fell", x.seek(), 9);
        x.promise(3, 6, 3, 7);
        due("15: 6 comes of 7", x.seek(), 9);
    }

    /** "the least numbers so that, for each NOW RULE (SPARE ones, too), its HEAD's is not below .., and above .. NOT". */
    private static void leastLayers() {
        BlowSeeker x = new BlowSeeker();
        x.rule(0, NOW, 1, 0, -1, -1, 0);
        due("14: a BODY alone lifts nothing", x.layer(1), 0);
        x.rule(1, NOW, 2, 0, -1, 1, 0);
        due("14: above its NOT", x.layer(2), 1);
        x.rule(2, NOW, 3, 2, -1, -1, 0);
        due("14: not below its BODY", x.layer(3), 1);
        x.rule(3, NOW, 4, 0, 3, -1, 0);
        due("14: not below the other of its BODY", x.layer(4), 1);
        x.rule(3, NOW, 5, 4, 2, 3, 0);
        due("14: above its NOT, not below its BODY", x.layer(5), 2);
        x.rule(-1, NOW, 4, 0, -1, 2, 0);
        due("14: the highest of its RULES", x.layer(4), 2);
        due("14: what stands on it, too", x.layer(5), 2);
        x.rule(-1, NOW, 1, 0, -1, 7, 0);
        due("14: all are lifted", x.layer(1), 1);
        due("14: all are lifted", x.layer(2), 2);
        due("14: all are lifted", x.layer(3), 2);
        due("14: all are lifted", x.layer(4), 3);
        due("14: all are lifted", x.layer(5), 3);
        due("14: not that of no RULE", x.layer(6), 0);
        due("14: nor the NOT", x.layer(7), 0);
        x.spare(6, 100);
        due("14: SPARE ones, too", x.layer(4), 3);
        x.rule(-1, KEPT, 7, 5, -1, 5, 0);
        x.rule(-1, SENT, 7, 5, -1, 5, 1);
        due("14: NOW RULES alone", x.layer(7), 0);
    }

    /** "A RULE that would leave none is refused." */
    private static void layersRefused() {
        for (int fact = 0; fact < 8; fact++) {
            BlowSeeker x = new BlowSeeker();
            int other = (fact + 3) % 8;
            due("3: NOT its HEAD", x.rule(-1, NOW, fact, other, -1, fact, 0), STATE);
            due("3: NOT its HEAD, in its BODY", x.rule(-1, NOW, fact, fact, -1, fact, 0), STATE);
            due("3: NOT of its BODY", x.rule(-1, NOW, fact, other, -1, other, 0), 0);
            due("3: its HEAD in its BODY", x.rule(-1, NOW, fact, fact, -1, other, 0), 1);
            due("3: two NOTS of each other", x.rule(-1, NOW, other, (fact + 1) % 8, -1, fact, 0), STATE);
            due("3: a BODY above", x.rule(-1, NOW, other, fact, -1, -1, 0), STATE);
            due("3: the other of a BODY above", x.rule(-1, NOW, other, other, fact, -1, 0), STATE);
            due("3: KEPT", x.rule(-1, KEPT, other, fact, -1, fact, 0), 2);
            due("3: SENT", x.rule(-1, SENT, other, fact, -1, fact, 0), 3);
            due("14: above", x.layer(fact), 1);
            due("14: below", x.layer(other), 0);
        }
    }

    /** Rings of 2 to 8 FACTS: without a NOT they stand, with one the last RULE is refused, wherever the NOT is. */
    private static void ringsOfAllLengths() {
        for (int size = 2; size <= 8; size++) {
            for (int notAt = -1; notAt < size; notAt++) {
                BlowSeeker x = new BlowSeeker();
                for (int i = size - 1; i >= 0; i--) {
                    int below = (i + size - 1) % size;
                    int got = i == notAt ? x.rule(0, NOW, i, i, -1, below, 0) : x.rule(0, NOW, i, below, -1, -1, 0);
                    due("3: ring of " + size + ", NOT at " + notAt, got, i == 0 && notAt >= 0 ? STATE : size - 1 - i);
                }
                due("14: ring of " + size + ", NOT at " + notAt, x.layer(size - 1), notAt > 0 ? 1 : 0);
            }
        }
    }

    // ---- part 2

    /** "a HOST that fell at it or ahead of it has no FACTS": each HOST at each TICK, the last one, too. */
    private static void fallAtEachTick() {
        for (int fallen = 0; fallen < 4; fallen++) {
            for (int at = 0; at <= 6; at++) {
                BlowSeeker x = ending(6);
                keep(x, -1, 0);
                x.rule(-1, NOW, 1, 0, -1, -1, 0);
                for (int host = 0; host < 4; host++) {
                    x.first(host, 0, 1);
                }
                x.blow(200 + 4 * at + fallen);
                for (int tick = 0; tick <= 6; tick++) {
                    due("10: fell at " + at, x.facts(fallen, tick), tick < at ? 3 : 0);
                    due("13: fell at " + at, x.why(fallen, tick, 1), tick < at ? 101 : NONE);
                    due("10: another one", x.facts((fallen + 1) % 4, tick), 3);
                }
            }
        }
    }

    /** "comes at the next TICK, if that lives then, and there is no LOSS of it", "(itself, too)". */
    private static void lettersThatCome() {
        BlowSeeker x = ending(3);
        x.rule(0, SENT, 5, 0, -1, -1, 1);
        x.rule(0, SENT, 6, 0, -1, -1, 0);
        keep(x, 1, 5);
        x.first(0, 0, 1);
        due("10: not at once", x.facts(1, 0), 0);
        due("10: at the next TICK", x.facts(1, 1), 32);
        due("10: to itself", x.facts(0, 1), 64);
        due("10: once", x.facts(0, 2), 0);
        x.blow(205);
        due("10: it does not live then", x.facts(1, 1), 0);
        x.clear();
        x.blow(209);
        due("10: it lives then", x.facts(1, 1), 32);
        due("10: and not any more", x.facts(1, 2), 0);
        x.clear();
        x.blow(201);
        due("10: fell ahead of it", x.facts(1, 1), 0);
        due("11: it is sent", x.letters(0, 0, 1), 1);
        x.clear();
        x.blow(204);
        due("10: who sent it may fall then", x.facts(1, 1), 32);
        due("10: a letter to itself is not there then", x.facts(0, 1), 0);
        x.clear();
        x.blow(200);
        due("10: who fell sends nothing", x.facts(1, 1), 0);
        due("11: who fell sends nothing", x.letters(0, 0, 1), 0);
        due("11: nor to itself", x.letters(0, 0, 0), 0);
    }

    /** Every FACT goes from every HOST to every HOST, and to no other. */
    private static void everyLetter() {
        for (int of = 0; of < 128; of++) {
            int from = of / 32;
            int to = of / 8 % 4;
            int fact = of % 8;
            BlowSeeker x = ending(1);
            x.rule(from, SENT, fact, 0, -1, -1, to);
            for (int host = 0; host < 4; host++) {
                x.first(host, 0, 1);
            }
            for (int host = 0; host < 4; host++) {
                due("10: FACT " + fact + ", " + from + " to " + to, x.facts(host, 1), host == to ? 1 << fact : 0);
                due("11: FACT " + fact + ", " + from + " to " + to, x.letters(0, from, host), host == to ? 1 : 0);
            }
            due("13: FACT " + fact + ", " + from + " to " + to, x.why(to, 1, fact), 300 + from);
        }
    }

    /** "by what it has then", "it begins the next TICK with the HEAD (if it lives then)". */
    private static void keptOnes() {
        BlowSeeker x = ending(3);
        x.rule(0, NOW, 1, 0, -1, -1, 0);
        x.rule(0, KEPT, 2, 1, -1, -1, 0);
        x.rule(0, KEPT, 3, 0, -1, 1, 0);
        x.rule(0, SENT, 4, 0, -1, 1, 0);
        x.rule(0, SENT, 5, 1, -1, -1, 0);
        x.rule(0, NOW, 6, 2, -1, -1, 0);
        x.first(0, 0, 1);
        due("10: NOW", x.facts(0, 0), 3);
        due("10: KEPT and SENT by what NOW RULES left", x.facts(0, 1), 4 + 32 + 64);
        due("13: KEPT", x.why(0, 1, 2), 201);
        due("13: SENT", x.why(0, 1, 5), 380);
        due("13: NOW of what was KEPT", x.why(0, 1, 6), 105);
        due("10: what is not KEPT goes", x.facts(0, 2), 0);
        x.blow(204);
        due("10: it does not live then", x.facts(0, 1), 0);
    }

    /** "LAYER by LAYER from the least one on": a NOT waits till its FACT is settled, whatever order RULES have. */
    private static void layerByLayer() {
        for (int has = 0; has < 2; has++) {
            BlowSeeker x = new BlowSeeker();
            x.rule(-1, NOW, 4, 0, -1, 3, 0);
            x.rule(-1, NOW, 3, 0, -1, 2, 0);
            x.rule(-1, NOW, 2, 0, -1, 1, 0);
            x.rule(-1, NOW, 1, 5, -1, -1, 0);
            x.first(0, 0, 1);
            x.first(0, 5, has);
            due("10: by layers, " + has, x.facts(0, 0), has == 1 ? 1 + 2 + 8 + 32 : 1 + 4 + 16);
        }
        BlowSeeker y = ending(1);
        y.rule(-1, NOW, 2, 0, -1, 1, 0);
        keep(y, 0, 0);
        y.rule(1, SENT, 1, 0, -1, -1, 0);
        y.first(0, 0, 1);
        y.first(1, 0, 1);
        due("10: without the letter", y.facts(0, 0), 5);
        due("10: the letter is there ahead of the NOT", y.facts(0, 1), 3);
        y.blow(4);
        due("10: it is lost", y.facts(0, 1), 5);
        y.first(0, 2, 1);
        y.first(0, 1, 1);
        due("10: what it begins with stays", y.facts(0, 0), 7);
    }

    /** As many LAYERS as there can be: each FACT comes if the one below it does not. */
    private static void allLayers() {
        for (int has = 0; has < 2; has++) {
            BlowSeeker x = ending(1);
            for (int fact = 7; fact >= 1; fact--) {
                x.rule(3, NOW, fact, 0, -1, fact - 1, 0);
            }
            x.first(3, 0, 1);
            x.first(3, 1, has);
            due("14: the last LAYER", x.layer(7), 7);
            due("10: every second one, " + has, x.facts(3, 0), has == 1 ? 1 + 2 + 8 + 32 + 128 : 1 + 4 + 16 + 64);
            due("13: the last one, " + has, x.why(3, 0, 7), has == 1 ? 100 : NONE);
            due("13: that below it, " + has, x.why(3, 0, 6), has == 1 ? NONE : 101);
        }
    }

    /** "again and again till nothing more comes": the longest way there is, its RULES in the worst order. */
    private static void againAndAgain() {
        BlowSeeker x = new BlowSeeker();
        for (int i = 7; i >= 1; i--) {
            x.rule(-1, NOW, i, i - 1, -1, -1, 0);
        }
        x.first(2, 0, 1);
        due("10: all", x.facts(2, 0), 255);
        due("10: of another host", x.facts(1, 0), 0);
        due("13: the last one", x.why(2, 0, 7), 100);
        due("13: the first one", x.why(2, 0, 1), 106);
        BlowSeeker y = new BlowSeeker();
        for (int i = 7; i >= 1; i--) {
            y.rule(-1, NOW, i, i - 1, -1, i == 4 ? 0 : -1, 0);
        }
        y.first(2, 0, 1);
        due("10: up to the NOT", y.facts(2, 0), 15);
        y.first(2, 3, 1);
        y.first(2, 0, 0);
        due("10: from the NOT on", y.facts(2, 0), 248);
    }

    /** "a LOSS of all LETTERS that a HOST sends to another one .. at a TICK": all, and no others. */
    private static void lossOfAllLetters() {
        BlowSeeker x = ending(3);
        keep(x, 0, 0);
        for (int fact = 1; fact <= 3; fact++) {
            x.rule(0, SENT, fact, 0, -1, -1, 1);
        }
        x.rule(0, SENT, 4, 0, -1, -1, 2);
        x.rule(3, SENT, 5, 0, -1, -1, 1);
        x.first(0, 0, 1);
        x.first(3, 0, 1);
        due("11: three", x.letters(0, 0, 1), 3);
        due("10: from both", x.facts(1, 1), 46);
        x.blow(1);
        due("11: lost ones, too", x.letters(0, 0, 1), 3);
        due("10: all of host 0", x.facts(1, 1), 32);
        due("10: not to host 2", x.facts(2, 1), 16);
        due("10: at that TICK alone", x.facts(1, 2), 14);
        x.blow(13);
        due("10: of both", x.facts(1, 1), 0);
    }

    /** "16 TICK + 4 HOST + that one": every LOSS takes its own letter and no other. */
    private static void everyLoss() {
        for (int lost = 0; lost < 32; lost++) {
            int from = lost / 4 % 4;
            int to = lost % 4;
            if (from == to) {
                continue;
            }
            BlowSeeker x = ending(2);
            keep(x, -1, 0);
            for (int host = 0; host < 4; host++) {
                x.first(host, 0, 1);
                x.rule(from, SENT, 1 + host, 0, -1, -1, host);
                x.rule((from + 1) % 4, SENT, 5, 0, -1, -1, host);
            }
            x.blow(lost);
            for (int tick = 0; tick < 2; tick++) {
                for (int host = 0; host < 4; host++) {
                    boolean hit = lost / 16 == tick && host == to;
                    due("8: loss " + lost, x.facts(host, tick + 1), 33 + (hit ? 0 : 2 << host));
                }
            }
        }
    }

    /** "a 0, p 0, b 0, q 0 at first": no FACT breaks it, for HOST 0 has FACT 0 if it has it. */
    private static void promiseAtFirst() {
        for (int host = 0; host < 4; host++) {
            for (int fact = 0; fact < 8; fact++) {
                BlowSeeker x = new BlowSeeker();
                keep(x, -1, fact);
                x.first(host, fact, 1);
                due("1: FACT " + fact + " of " + host + " alone", x.broken(), 0);
                due("1: FACT " + fact + " of " + host + " alone", x.seek(), 9);
                x.promise(host, fact, 0, 0);
                due("6: FACT " + fact + " of " + host + " wants 0 of 0", x.broken(), host + fact == 0 ? 0 : 1);
                x.promise(0, 0, host, fact);
                due("6: 0 of 0 wants FACT " + fact + " of " + host, x.broken(), 0);
            }
        }
    }

    /** "if HOST a has FACT p at TICK END, then HOST b has FACT q at END, or has fallen. (0, 0, 0, 0 at first.)" */
    private static void promiseAtEnd() {
        BlowSeeker x = ending(2);
        keep(x, 0, 0);
        x.first(0, 0, 1);
        due("6: at first it holds of itself", x.broken(), 0);
        due("15: and is safe", x.seek(), 9);
        due("6: promise", x.promise(0, 0, 1, 0), 0);
        due("12: host 1 has it not", x.broken(), 1);
        x.first(1, 0, 1);
        due("12: host 1 has it at TICK 0 alone", x.broken(), 1);
        x.rule(1, KEPT, 0, 0, -1, 7, 0);
        due("12: host 1 keeps it", x.broken(), 0);
        x.first(1, 7, 1);
        due("12: not with a 7", x.broken(), 1);
        for (int tick = 0; tick <= 2; tick++) {
            x.clear();
            x.blow(201 + 4 * tick);
            due("12: b fell at " + tick, x.broken(), 0);
            x.clear();
            x.blow(200 + 4 * tick);
            due("12: a fell at " + tick, x.broken(), 0);
            x.clear();
            x.blow(202 + 4 * tick);
            due("12: another one fell at " + tick, x.broken(), 1);
        }
        x.clear();
        due("6: of a itself", x.promise(0, 0, 0, 1), 0);
        due("12: it has it not", x.broken(), 1);
        x.blow(208);
        due("12: fallen at END, a has no FACT", x.broken(), 0);
        x.clear();
        x.end(1);
        due("6: the promise stays", x.broken(), 1);
        x.first(0, 0, 0);
        due("12: a has it not", x.broken(), 0);
    }

    // ---- part 3

    /** Host 0 keeps fact 0 and sends it at each tick to host 1, which keeps it: END losses are needed. */
    private static BlowSeeker lossesNeeded(int end) {
        BlowSeeker x = ending(end);
        keep(x, -1, 0);
        send(x, 0, 0, 1);
        x.first(0, 0, 1);
        x.promise(0, 0, 1, 0);
        return x;
    }

    /** "at most l LOSSES, f FALLS (0 .. 2 each)", "(0, 0, 0 at first)". */
    private static void boundsOfEach() {
        BlowSeeker x = lossesNeeded(1);
        due("7: none at first", x.seek(), 9);
        due("17: none at first", x.sets(), 1);
        for (int f = 0; f <= 2; f++) {
            x.bounds(0, f, 6);
            due("7: no LOSS, f " + f, x.seek(), 9);
            for (int l = 1; l <= 2; l++) {
                x.bounds(l, f, 6);
                due("7: l " + l + ", f " + f, x.seek(), 1);
                due("16: found", x.found(0), 1);
            }
        }
        BlowSeeker y = lossesNeeded(2);
        for (int f = 0; f <= 2; f++) {
            y.bounds(1, f, 6);
            due("7: one LOSS of two, f " + f, y.seek(), 9);
            y.bounds(2, f, 6);
            due("7: two, f " + f, y.seek(), 2);
        }
    }

    /** "2 BLOWS together": three are too many, whatever l and f are. */
    private static void twoTogether() {
        BlowSeeker x = lossesNeeded(3);
        x.bounds(2, 2, 6);
        due("15: three LOSSES would be needed", x.seek(), 9);
        due("18: safe", x.weak(1), 0);
        due("20: safe from one", x.mend(), 0);
        x.blow(1);
        x.blow(17);
        due("12: two", x.broken(), 0);
        x.blow(33);
        due("12: three", x.broken(), 1);
        due("19: three are left", x.shrink(), 3);
    }

    /** "to another one (not itself)": what a HOST sends to itself is lost by no BLOW. */
    private static void noLossToItself() {
        for (int host = 0; host < 4; host++) {
            BlowSeeker x = ending(3);
            int other = (host + 1) % 4;
            keep(x, other, 0);
            send(x, host, 1, host);
            x.first(other, 0, 1);
            x.first(host, 1, 1);
            x.promise(other, 0, host, 1);
            due("12: it holds", x.broken(), 0);
            for (int tick = 0; tick < 3; tick++) {
                due("8: no such BLOW", x.blow(16 * tick + 5 * host), NONE);
            }
            x.bounds(2, 2, 6);
            due("15: SAFE", x.seek(), 9);
            due("18: no such BLOW", x.weak(5 * host), NONE);
            due("20: SAFE", x.mend(), 0);
        }
    }

    /** "all at TICKS up to t": t itself, too; and t beyond END is no more than END. */
    private static void ticksUpToT() {
        for (int end = 1; end <= 6; end++) {
            for (int t = 0; t <= 6; t++) {
                BlowSeeker x = ending(end);
                keep(x, 0, 0);
                send(x, 0, 0, 1);
                x.first(0, 0, 1);
                x.promise(0, 0, 1, 0);
                x.bounds(1, 0, t);
                boolean breaks = t >= end - 1;
                due("15: END " + end + ", t " + t, x.seek(), breaks ? 1 : 9);
                due("16: the loss ahead of END", x.found(0), breaks ? 16 * (end - 1) + 1 : NONE);
                due("18: that loss", x.weak(16 * (end - 1) + 1), breaks ? 1 : 0);
                due("20: that loss", x.mend(), breaks ? NONE : 0);
                BlowSeeker y = ending(end);
                keep(y, -1, 0);
                y.rule(1, NOW, 1, 0, -1, -1, 0);
                y.rule(1, SENT, 2, 0, -1, -1, 0);
                y.rule(0, NOW, 3, 0, -1, 2, 0);
                y.first(0, 0, 1);
                y.first(0, 2, 1);
                y.first(1, 0, 1);
                y.promise(0, 3, 3, 7);
                y.bounds(0, 1, t);
                due("15: a fall, END " + end + ", t " + t, y.seek(), 1);
                due("16: at TICK 0", y.found(0), 201);
                for (int tick = 0; tick <= end; tick++) {
                    due("18: fall at " + tick, y.weak(201 + 4 * tick), tick < end && tick <= t ? 1 : 0);
                }
            }
        }
    }

    /** "that with the fewest, of several the one with the least number, then (of two) the least other one". */
    private static void breakWithTheFewest() {
        BlowSeeker x = ending(2);
        keep(x, 0, 0);
        keep(x, 1, 1);
        x.rule(0, SENT, 2, 0, -1, -1, 2);
        x.rule(2, SENT, 1, 2, -1, -1, 1);
        x.first(0, 0, 1);
        x.promise(0, 0, 1, 1);
        x.bounds(2, 2, 6);
        due("15: one of many", x.seek(), 1);
        due("16: the least LOSS", x.found(0), 2);
        due("16: no other one", x.found(1), NONE);
        int breaks = 0;
        for (int number = 0; number < 228; number++) {
            breaks += Math.max(0, x.weak(number));
        }
        due("18: two losses and two falls", breaks, 4);
        due("18: 25", x.weak(25), 1);
        due("18: 202", x.weak(202), 1);
        due("18: 206", x.weak(206), 1);
        x.bounds(0, 2, 6);
        due("15: falls alone", x.seek(), 1);
        due("16: the least FALL", x.found(0), 202);
        x.rule(0, SENT, 1, 0, -1, -1, 1);
        x.bounds(2, 2, 6);
        due("15: host 0 sends it by itself, too, twice", x.seek(), 9);
        x.spare(1, 0);
        due("15: what came at 1 is not kept: two", x.seek(), 2);
        due("16: the least", x.found(0), 2);
        due("16: its least other one", x.found(1), 17);
        due("18: 17 is in all", x.weak(17), 4);
        due("18: 2", x.weak(2), 1);
        due("18: 202", x.weak(202), 1);
        due("18: 1 is in none", x.weak(1), 0);
    }

    /** The greatest number of a LOSS, and of a FALL, at TICK t is within BOUNDS, too. */
    private static void breakByTheLastBlow() {
        for (int t = 0; t <= 4; t++) {
            BlowSeeker x = ending(t + 1);
            keep(x, 0, 0);
            keep(x, 3, 0);
            send(x, 3, 0, 2);
            x.first(0, 0, 1);
            x.first(3, 0, 1);
            x.promise(0, 0, 2, 0);
            x.bounds(1, 0, t);
            due("15: the last LOSS, t " + t, x.seek(), 1);
            due("16: the last LOSS, t " + t, x.found(0), 16 * t + 14);
            due("18: the last LOSS, t " + t, x.weak(16 * t + 14), 1);
            due("20: the last LOSS, t " + t, x.mend(), NONE);
            x.bounds(0, 1, t);
            due("15: the least FALL, t " + t, x.seek(), 1);
            due("16: the least FALL, t " + t, x.found(0), 203);
            due("18: the last FALL, t " + t, x.weak(203 + 4 * t), 1);
            due("18: a FALL at END", x.weak(207 + 4 * t), 0);
            due("20: the FALLS, t " + t, x.mend(), NONE);
        }
    }

    /** One LOSS and one FALL together, which neither two LOSSES nor two FALLS do. */
    private static void breakOfLossAndFall() {
        BlowSeeker x = ending(1);
        keep(x, 0, 0);
        send(x, 0, 0, 1);
        x.rule(2, SENT, 1, 0, -1, -1, 1);
        x.rule(1, NOW, 2, 0, -1, -1, 0);
        x.rule(1, NOW, 2, 1, -1, -1, 0);
        x.first(0, 0, 1);
        x.first(2, 0, 1);
        x.promise(0, 0, 1, 2);
        x.bounds(1, 1, 1);
        due("15: a LOSS and a FALL", x.seek(), 2);
        due("16: the LOSS", x.found(0), 1);
        due("16: the FALL", x.found(1), 202);
        due("18: the LOSS", x.weak(1), 1);
        due("18: the FALL", x.weak(202), 1);
        due("18: the other LOSS", x.weak(9), 0);
        x.bounds(2, 0, 1);
        due("15: two LOSSES", x.seek(), 2);
        due("16: the other LOSS", x.found(1), 9);
        x.bounds(2, 1, 1);
        due("15: either", x.seek(), 2);
        due("16: the least other one", x.found(1), 9);
        due("18: the LOSS is in both", x.weak(1), 2);
        due("18: the other LOSS", x.weak(9), 1);
        due("18: the FALL", x.weak(202), 1);
        x.bounds(1, 2, 1);
        due("15: no two LOSSES", x.found(1), 9);
        due("15: no two LOSSES", x.seek(), 2);
        due("16: the FALL", x.found(1), 202);
        x.bounds(0, 2, 1);
        due("15: a may not fall", x.seek(), 9);
    }

    private static void breakOfTwoFalls() {
        BlowSeeker x = ending(1);
        keep(x, 0, 0);
        send(x, 2, 0, 1);
        send(x, 3, 0, 1);
        x.first(0, 0, 1);
        x.first(2, 0, 1);
        x.first(3, 0, 1);
        x.promise(0, 0, 1, 0);
        x.bounds(0, 1, 6);
        due("15: one FALL", x.seek(), 9);
        x.bounds(0, 2, 6);
        due("15: two FALLS", x.seek(), 2);
        due("16: found", x.found(0), 202);
        due("16: found", x.found(1), 203);
        due("18: too late", x.weak(206), 0);
        x.bounds(1, 1, 0);
        due("15: one of each", x.seek(), 2);
        due("16: found", x.found(0), 9);
        due("16: found", x.found(1), 203);
        due("18: 13 with 202", x.weak(13), 1);
        due("18: 202 with 13", x.weak(202), 1);
        x.bounds(2, 2, 0);
        due("15: any two", x.seek(), 2);
        due("16: found", x.found(0), 9);
        due("16: found", x.found(1), 13);
        due("18: 9 with 13 or 203", x.weak(9), 2);
        due("18: 203 with 9 or 202", x.weak(203), 2);
    }

    /** "with as many BLOWS as THE BREAK": greater sets do not count; "(0, if it is SAFE)". */
    private static void weakOfAll() {
        BlowSeeker x = lossesNeeded(1);
        x.bounds(2, 2, 6);
        for (int number = 0; number < 216; number++) {
            int tick = number < 200 ? number / 16 : (number - 200) / 4;
            boolean is = number < 200 ? tick < 1 && number / 4 % 4 != number % 4 : tick <= 1;
            due("18: weak(" + number + ")", x.weak(number), !is ? NONE : number == 1 ? 1 : 0);
        }
        x.bounds(0, 2, 6);
        due("18: SAFE", x.weak(1), 0);
        x.spare(1, 1);
        due("15: none are needed", x.seek(), 0);
        due("18: none are needed", x.weak(1), 0);
        due("18: none are needed", x.weak(202), 0);
    }

    /** "BLOW i of THE BREAK found latest": it stays till it is sought again. */
    private static void foundLatest() {
        BlowSeeker x = lossesNeeded(2);
        x.bounds(2, 0, 6);
        due("16: weak, mend and sets do not seek", x.weak(1) + x.mend() + x.sets(), 1 + 0 + 1 + 24 + 276);
        due("16: none yet", x.found(0), NONE);
        due("15: two", x.seek(), 2);
        x.blow(1);
        x.blow(17);
        x.shrink();
        x.clear();
        x.promise(3, 3, 3, 3);
        x.bounds(0, 0, 0);
        x.first(0, 0, 0);
        x.rule(3, NOW, 3, 2, -1, -1, 0);
        x.spare(0, 3);
        due("18: weak", x.weak(1), 0);
        due("20: mend", x.mend(), 0);
        x.end(1);
        due("16: as found", x.found(0), 1);
        due("16: as found", x.found(1), 17);
        due("15: sought again", x.seek(), 9);
        due("16: none", x.found(0), NONE);
        due("16: none", x.found(1), NONE);
    }

    /** "one by one, by numbers, each goes if it is BROKEN by the others that are left". */
    private static void shrinkByNumbers() {
        int[][] orders = {{1, 9}, {9, 1}};
        for (int[] order : orders) {
            BlowSeeker x = ending(1);
            keep(x, 0, 0);
            x.rule(0, SENT, 2, 0, -1, -1, 1);
            x.rule(2, SENT, 3, 0, -1, -1, 1);
            x.rule(1, NOW, 4, 2, 3, -1, 0);
            x.first(0, 0, 1);
            x.first(2, 0, 1);
            x.promise(0, 0, 1, 4);
            x.blow(order[0]);
            x.blow(order[1]);
            due("19: one is enough", x.shrink(), 1);
            due("19: the least one went", x.hand(0), 9);
            due("22: no other", x.hand(1), NONE);
            due("10: its run", x.facts(1, 1), 4);
        }
        BlowSeeker y = lossesNeeded(1);
        due("19: none in hand", y.shrink(), STATE);
        y.blow(2);
        due("19: it holds", y.shrink(), STATE);
        due("19: they stay", y.hand(0), 2);
        y.blow(1);
        due("19: one went", y.shrink(), 1);
        due("19: one stays", y.hand(0), 1);
        due("8: it may come again", y.blow(2), 2);
        y.promise(0, 0, 3, 3);
        due("19: broken by none", y.shrink(), 0);
        due("19: broken by none, none in hand", y.shrink(), 0);
        due("22: none", y.hand(0), NONE);
    }

    /** Four in hand, all needless, or all but the one in the midst. */
    private static void shrinkFour() {
        for (int needed = -1; needed < 4; needed++) {
            BlowSeeker x = ending(1);
            keep(x, 0, 0);
            x.rule(0, SENT, 1, 0, -1, -1, 1);
            x.first(0, 0, 1);
            x.promise(0, 0, 1, needed < 0 ? 7 : 1);
            int[] others = {207, 12, 203, 2};
            for (int i = 0; i < 4; i++) {
                due("8: blow", x.blow(i == needed ? 1 : others[i]), i + 1);
            }
            due("19: needed " + needed, x.shrink(), needed < 0 ? 0 : 1);
            due("22: needed " + needed, x.hand(0), needed < 0 ? NONE : 1);
            due("22: needed " + needed, x.hand(1), NONE);
            due("9: cleared", x.clear(), needed < 0 ? 0 : 1);
        }
        BlowSeeker y = lossesNeeded(4);
        int[] all = {49, 1, 33, 17};
        for (int number : all) {
            y.blow(number);
        }
        due("19: all four are needed", y.shrink(), 4);
        for (int i = 0; i < 4; i++) {
            due("22: as they came", y.hand(i), all[i]);
        }
    }

    /**
     * "again from the least one till none goes": it is broken by {}, {4}, {4, 8}, {4, 8, 12} and by all
     * four alone, so that each pass takes the greatest one and no other, and a fourth is needed.
     */
    private static void shrinkFourTimes() {
        BlowSeeker x = ending(2);
        keep(x, 0, 0);
        for (int host = 1; host <= 3; host++) {
            x.first(host, 6, 1);
            x.rule(host, SENT, host, 6, -1, -1, 0);
            keep(x, 0, host);
            x.rule(0, NOW, 5, host, -1, host + 1, 0);
        }
        x.rule(1, KEPT, 7, 6, -1, -1, 0);
        x.rule(1, SENT, 4, 7, -1, -1, 0);
        x.first(0, 0, 1);
        x.promise(0, 0, 0, 5);
        int[] all = {20, 8, 4, 12};
        for (int number : all) {
            x.blow(number);
        }
        due("21: all twelve RULES", x.count(0), 12);
        due("12: broken by four", x.broken(), 1);
        due("19: none is needed", x.shrink(), 0);
        due("10: the RUN has none", x.facts(0, 2), 31);
        due("12: broken by none", x.broken(), 1);
        for (int without = 0; without < 4; without++) {
            x.clear();
            for (int i = 0; i < 4; i++) {
                if (i != without) {
                    x.blow(all[i]);
                }
            }
            due("12: without " + all[without], x.broken(), without == 0 ? 1 : 0);
            due("19: without " + all[without], x.shrink(), without == 0 ? 0 : STATE);
        }
    }

    /** "not BROKEN by none, nor by one BLOW within BOUNDS". */
    private static void mendNeedsBoth() {
        BlowSeeker x = ending(2);
        keep(x, 0, 0);
        x.rule(0, SENT, 1, 0, -1, -1, 1);
        x.rule(1, KEPT, 1, 1, -1, -1, 0);
        x.first(0, 0, 1);
        x.promise(0, 0, 1, 1);
        x.spare(1, 60);
        x.spare(2, 70);
        due("20: by none", x.mend(), 1);
        x.bounds(0, 2, 6);
        due("20: a FALL of 0 or 1 breaks nothing", x.mend(), 1);
        x.bounds(1, 0, 6);
        due("20: nor by one LOSS", x.mend(), 3);
        x.bounds(2, 2, 6);
        due("20: two LOSSES are not one", x.mend(), 3);
        due("21: nothing is PUT IN", x.count(1), 2);
        due("15: nothing is PUT IN", x.seek(), 0);
        x.spare(1, -1);
        due("20: the other one is the first now", x.mend(), 1);
        x.spare(2, -1);
        due("20: none are SPARE, none are needed", x.mend(), 0);
        x.promise(0, 0, 2, 7);
        due("20: none are SPARE, it is broken", x.mend(), NONE);
    }

    /** The BLOWS in hand do not count when mending, those beyond t do not either. */
    private static void mendWithinBounds() {
        BlowSeeker x = ending(2);
        keep(x, 0, 0);
        x.rule(0, SENT, 1, 0, -1, -1, 1);
        x.rule(0, SENT, 1, 0, -1, -1, 2);
        x.rule(2, SENT, 1, 1, -1, -1, 1);
        x.spare(2, 1);
        x.spare(3, 1);
        x.first(0, 0, 1);
        x.promise(0, 0, 1, 1);
        x.bounds(1, 0, 0);
        due("20: a LOSS at 0 breaks nothing", x.mend(), 0);
        x.bounds(1, 0, 1);
        due("20: a LOSS at 1 does", x.mend(), 3);
        x.blow(17);
        x.blow(25);
        due("12: broken by those in hand", x.broken(), 1);
        due("20: those in hand do not count", x.mend(), 3);
        due("22: they stay", x.hand(1), 25);
        x.bounds(0, 1, 6);
        due("20: a FALL breaks nothing", x.mend(), 0);
        x.spare(1, 100);
        due("20: the way by host 2 may fall", x.mend(), 1);
        x.bounds(0, 0, 6);
        due("20: it is cheaper", x.mend(), 6);
    }

    /** "that with the least sum of PRICES .., of several that with the least number as bits". */
    private static void mendLeastSumThenBits() {
        BlowSeeker x = ending(1);
        keep(x, 0, 0);
        for (int i = 0; i < 5; i++) {
            x.rule(0, NOW, 1 + i, 0, -1, -1, 0);
            x.spare(1 + i, 100);
        }
        x.rule(0, NOW, 7, 4, 5, -1, 0);
        x.rule(0, NOW, 7, 1, -1, -1, 0);
        x.first(0, 0, 1);
        x.promise(0, 0, 0, 7);
        due("20: one for 100", x.mend(), 1);
        x.spare(4, 50);
        x.spare(5, 50);
        due("20: two for 100 have more bits", x.mend(), 1);
        x.spare(5, 49);
        due("20: two for 99", x.mend(), 24);
        x.spare(1, 99);
        due("20: one for 99", x.mend(), 1);
        x.spare(4, 0);
        x.spare(5, 0);
        due("20: two for nothing", x.mend(), 24);
        x.spare(1, 0);
        due("20: one for nothing", x.mend(), 1);
        x.spare(2, 0);
        x.spare(3, 0);
        due("20: not those that do nothing", x.mend(), 1);
        x.promise(0, 0, 0, 0);
        due("20: nothing is needed, nothing costs", x.mend(), 0);
    }

    /** "5 at most count: the first ones", "bit i: the i-th of them". */
    private static void mendFirstFive() {
        for (int needed = 0; needed < 8; needed++) {
            BlowSeeker x = ending(1);
            for (int i = 0; i < 8; i++) {
                x.rule(0, KEPT, i == needed ? 1 : 7, 0, -1, -1, 0);
            }
            for (int i = 7; i >= 0; i--) {
                x.spare(i, 10 * i);
            }
            keep(x, 0, 0);
            x.first(0, 0, 1);
            x.promise(0, 0, 0, 1);
            due("20: needed " + needed, x.mend(), needed < 5 ? 1 << needed : NONE);
            x.spare(0, -1);
            int want = needed == 0 ? 0 : needed < 6 ? 1 << (needed - 1) : NONE;
            due("20: without the first one, needed " + needed, x.mend(), want);
        }
    }

    /** "the first of these that is so (FIRST, KEPT, LETTER, NOW)". */
    private static void whyOrder() {
        for (int of = 0; of < 8; of++) {
            BlowSeeker x = ending(1);
            keep(x, 0, 0);
            x.rule(0, NOW, 1, 0, -1, -1, 0);
            x.rule(3, SENT, 1, 0, -1, -1, 0);
            x.rule(0, KEPT, 1, 0, -1, -1, 0);
            x.first(0, 0, 1);
            x.first(3, 0, 1);
            x.first(0, 1, 1);
            x.spare(1, (of & 1) != 0 ? -1 : 0);
            x.spare(2, (of & 2) != 0 ? -1 : 0);
            x.spare(3, (of & 4) != 0 ? -1 : 0);
            int want = (of & 4) != 0 ? 203 : (of & 2) != 0 ? 343 : (of & 1) != 0 ? 101 : NONE;
            due("13: at 1, of " + of, x.why(0, 1, 1), want);
            due("13: FIRST, of " + of, x.why(0, 0, 1), 0);
            x.first(0, 1, 0);
            due("13: not FIRST, of " + of, x.why(0, 0, 1), (of & 1) != 0 ? 101 : NONE);
            due("13: at 1, not FIRST, of " + of, x.why(0, 1, 1), want);
        }
    }

    /** "the least NOW RULE .., the least KEPT one .., the LETTER of the least SENT RULE, then HOST". */
    private static void whyLeast() {
        BlowSeeker x = ending(2);
        keep(x, -1, 0);
        x.rule(-1, NOW, 1, 0, 7, -1, 0);
        x.rule(-1, NOW, 1, 0, -1, -1, 0);
        x.rule(-1, NOW, 1, 0, -1, -1, 0);
        x.rule(-1, KEPT, 2, 0, -1, 0, 0);
        x.rule(-1, KEPT, 2, 0, -1, -1, 0);
        x.rule(-1, KEPT, 2, 0, -1, -1, 0);
        x.rule(3, SENT, 3, 0, -1, -1, 1);
        x.rule(-1, SENT, 3, 0, -1, -1, 1);
        x.rule(2, SENT, 4, 0, -1, -1, 1);
        x.rule(-1, SENT, 4, 0, -1, 6, 1);
        for (int host = 0; host < 4; host++) {
            x.first(host, 0, 1);
        }
        due("13: the least NOW RULE that works", x.why(0, 0, 1), 102);
        due("13: the least KEPT RULE that works", x.why(0, 1, 2), 205);
        due("13: the least SENT RULE, not the least HOST", x.why(1, 1, 3), 443);
        due("13: the least SENT RULE", x.why(1, 1, 4), 482);
        x.blow(13);
        due("13: that LETTER is lost: the next RULE's least HOST", x.why(1, 1, 3), 460);
        x.blow(1);
        due("13: that of host 0 is lost: from itself", x.why(1, 1, 3), 461);
        due("13: not at the next TICK", x.why(1, 2, 3), 443);
        x.blow(9);
        due("13: RULE 9's is lost", x.why(1, 1, 4), 501);
        x.first(1, 6, 1);
        due("13: its NOT is there", x.why(1, 1, 4), NONE);
        due("13: a letter does not go to host 2", x.why(2, 1, 3), NONE);
        x.blow(203);
        due("13: host 3 fell", x.why(1, 2, 3), 460);
        x.spare(8, 0);
        due("13: none is left", x.why(1, 2, 3), NONE);
    }

    /** "the LETTER .. with which it came": a lost one did not come, and NOW is left. */
    private static void whyNotByLostLetters() {
        for (int to = 0; to < 4; to++) {
            BlowSeeker x = ending(2);
            x.rule(-1, SENT, 1, 0, -1, -1, to);
            x.rule(-1, NOW, 1, 2, -1, -1, 0);
            keep(x, to, 2);
            x.first(to, 2, 1);
            int others = 0;
            for (int from = 3; from >= 0; from--) {
                if (from != to) {
                    x.first(from, 0, 1);
                    due("13: from " + from + " to " + to, x.why(to, 1, 1), 300 + from);
                    others |= 1 << from;
                }
            }
            for (int from = 0; from < 4; from++) {
                if (from != to) {
                    x.blow(4 * from + to);
                    others &= ~(1 << from);
                    int want = others == 0 ? 101 : 300 + Integer.numberOfTrailingZeros(others);
                    due("13: lost from " + from + " to " + to, x.why(to, 1, 1), want);
                }
            }
            due("13: no letter at all", x.why(to, 2, 1), 101);
        }
    }

    private static void whyNotByLettersToOthers() {
        BlowSeeker x = ending(1);
        for (int to = 3; to >= 0; to--) {
            x.rule(0, SENT, 1, 0, -1, -1, to);
        }
        x.first(0, 0, 1);
        for (int to = 0; to < 4; to++) {
            due("13: the LETTER to " + to, x.why(to, 1, 1), 300 + 20 * (3 - to));
        }
    }

    /** RULE 0 of each KIND. */
    private static void whyNear() {
        for (int kind = NOW; kind <= SENT; kind++) {
            for (int host = 0; host < 4; host++) {
                BlowSeeker x = ending(1);
                x.rule(host, kind, 1, 0, -1, -1, 0);
                x.first(host, 0, 1);
                int got = kind == NOW ? x.why(host, 0, 1) : kind == KEPT ? x.why(host, 1, 1) : x.why(0, 1, 1);
                due("13: RULE 0 of kind " + kind, got, kind == NOW ? 100 : kind == KEPT ? 200 : 300 + host);
            }
        }
    }

    /** "300 + 20 RULE + HOST", "200 + RULE", "100 + RULE" of the last RULE and the last HOST. */
    private static void whyFar() {
        for (int kind = NOW; kind <= SENT; kind++) {
            BlowSeeker x = ending(6);
            for (int i = 0; i < 10; i++) {
                x.rule(-1, SENT, 6, 6, -1, -1, 0);
            }
            keep(x, 3, 5);
            x.rule(3, kind, 7, 5, -1, -1, kind == SENT ? 3 : 0);
            x.first(3, 5, 1);
            due("13: the last of all, kind " + kind, x.why(3, 6, 7), kind == SENT ? 523 : kind == KEPT ? 211 : 111);
            due("13: what it is kept by", x.why(3, 6, 5), 210);
        }
    }

    /** "all sets of BLOWS within BOUNDS, the empty one, too": at every END and t, counted one by one. */
    private static void setsOfAll() {
        for (int end = 1; end <= 6; end++) {
            BlowSeeker x = ending(end);
            for (int of = 0; of < 63; of++) {
                int l = of % 3;
                int f = of / 3 % 3;
                int t = of / 9;
                x.bounds(l, f, t);
                due("17: END " + end + ", bounds " + l + ", " + f + ", " + t, x.sets(), setsOneByOne(end, l, f, t));
            }
        }
    }

    private static int setsOneByOne(int end, int l, int f, int t) {
        int sets = 1;
        for (int x = 0; x < 228; x++) {
            if (!isWithin(end, t, x)) {
                continue;
            }
            int losses = x < 200 ? 1 : 0;
            sets += losses <= l && 1 - losses <= f ? 1 : 0;
            for (int y = x + 1; y < 228; y++) {
                int both = losses + (y < 200 ? 1 : 0);
                sets += isWithin(end, t, y) && both <= l && 2 - both <= f ? 1 : 0;
            }
        }
        return sets;
    }

    private static boolean isWithin(int end, int t, int number) {
        if (number >= 200) {
            return (number - 200) / 4 <= Math.min(t, end);
        }
        return number / 16 <= Math.min(t, end - 1) && number / 4 % 4 != number % 4;
    }

    // ---- part 4

    /** "THE BLOWS in hand (4 at most) are those of the RUN that is looked at." */
    private static void blowsInHand() {
        BlowSeeker x = lossesNeeded(4);
        int[] numbers = {1, 17, 33, 49};
        for (int i = 0; i < 4; i++) {
            due("10: host 1 at " + (i + 1), x.facts(1, i + 1), 1);
            due("8: how many", x.blow(numbers[i]), i + 1);
            due("8: it is in hand", x.blow(numbers[i]), BAD);
            due("10: host 1 at " + (i + 1), x.facts(1, i + 1), 0);
            due("12: broken", x.broken(), i == 3 ? 1 : 0);
        }
        due("8: FULL", x.blow(2), FULL);
        due("8: FULL", x.blow(200), FULL);
        due("21: four", x.count(2), 4);
        due("9: how many were", x.clear(), 4);
        due("10: the RUN has none", x.facts(1, 1), 1);
        due("9: how many were", x.clear(), 0);
        due("8: it may come again", x.blow(49), 1);
        x.rule(1, SENT, 7, 0, -1, -1, 2);
        due("10: new RULES, the same BLOWS", x.facts(1, 4) + x.facts(2, 4), 1 + 128);
        x.first(0, 0, 0);
        due("10: other FIRST ones, the same BLOWS", x.facts(1, 4) + x.count(2), 1);
    }

    private static void countsAtTheirMost() {
        BlowSeeker x = ending(6);
        for (int i = 0; i < 12; i++) {
            x.rule(-1, KEPT, 0, 0, -1, -1, 0);
            x.spare(i, i);
        }
        for (int i = 0; i < 32; i++) {
            x.first(i / 8, i % 8, 1);
        }
        for (int i = 0; i < 4; i++) {
            x.blow(227 - i);
        }
        int[] want = {12, 12, 4, 6, 32};
        for (int what = 0; what < 5; what++) {
            due("21: count(" + what + ")", x.count(what), want[what]);
        }
        for (int i = 0; i < 4; i++) {
            due("22: hand(" + i + ")", x.hand(i), 227 - i);
        }
        due("21: 5", x.count(5), NONE);
        due("22: 4", x.hand(4), NONE);
    }
}
