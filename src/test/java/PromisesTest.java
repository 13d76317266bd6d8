/** Each promise of the document by itself: ordinary calls, the edges that it names, and wrong calls. */
public final class PromisesTest {
    private static final int NONE = -1, BAD = -2, STATE = -3, FULL = -4;
    private static int wrong = 0;
    private static int asked = 0;

    public static void main(String[] args) {
        newObject();
        end();
        rule();
        ruleLayers();
        ruleFull();
        spare();
        first();
        promise();
        bounds();
        blow();
        clear();
        facts();
        factsByLayers();
        factsAndBlows();
        letters();
        broken();
        why();
        layer();
        seek();
        seekOrder();
        found();
        sets();
        weak();
        shrink();
        shrinkAgain();
        mend();
        mendFive();
        count();
        hand();
        System.out.println(asked + " answers asked, " + wrong + " not as due");
        if (wrong != 0) {
            System.exit(1);
        }
    }

    private static void due(String call, int got, int want) {
        asked++;
        if (got != want) {
            wrong++;
            System.out.println(call + " answered " + got + ", due is " + want);
        }
    }

    private static void newObject() {
        BlowSeeker x = new BlowSeeker();
        due("1: no rules", x.count(0), 0);
        due("1: no spare ones", x.count(1), 0);
        due("1: no blows", x.count(2), 0);
        due("1: end", x.count(3), 4);
        due("1: nothing first", x.count(4), 0);
        due("1: facts", x.facts(3, 4), 0);
        due("1: not broken", x.broken(), 0);
        due("1: found", x.found(0), NONE);
        due("1: hand", x.hand(0), NONE);
        due("1: bounds 0, 0, 0", x.sets(), 1);
        due("1: seek", x.seek(), 9);
        due("1: mend", x.mend(), 0);
        due("1: layer", x.layer(7), 0);
    }

    private static void end() {
        BlowSeeker x = new BlowSeeker();
        due("2: end(6)", x.end(6), 4);
        due("2: end(1)", x.end(1), 6);
        due("2: blow", x.blow(1), 1);
        due("2: end(0)", x.end(0), BAD);
        due("2: end(7)", x.end(7), BAD);
        due("2: end(-1)", x.end(-1), BAD);
        due("2: a refusal leaves the blows", x.count(2), 1);
        due("2: a refusal leaves END", x.count(3), 1);
        due("2: the same END again", x.end(1), 1);
        due("2: no blows then", x.count(2), 0);
    }

    private static void rule() {
        BlowSeeker x = new BlowSeeker();
        due("3: host -2", x.rule(-2, 0, 0, 0, -1, -1, 0), NONE);
        due("3: host 4", x.rule(4, 0, 0, 0, -1, -1, 0), NONE);
        due("3: kind -1", x.rule(0, -1, 0, 0, -1, -1, 0), NONE);
        due("3: kind 3", x.rule(0, 3, 0, 0, -1, -1, 0), NONE);
        due("3: head -1", x.rule(0, 0, -1, 0, -1, -1, 0), NONE);
        due("3: head 8", x.rule(0, 0, 8, 0, -1, -1, 0), NONE);
        due("3: a -1", x.rule(0, 0, 0, -1, -1, -1, 0), NONE);
        due("3: a 8", x.rule(0, 0, 0, 8, -1, -1, 0), NONE);
        due("3: b -2", x.rule(0, 0, 0, 0, -2, -1, 0), NONE);
        due("3: b 8", x.rule(0, 0, 0, 0, 8, -1, 0), NONE);
        due("3: not -2", x.rule(0, 0, 1, 0, -1, -2, 0), NONE);
        due("3: not 8", x.rule(0, 0, 1, 0, -1, 8, 0), NONE);
        due("3: to -1 of SENT", x.rule(0, 2, 1, 0, -1, -1, -1), NONE);
        due("3: to 4 of SENT", x.rule(0, 2, 1, 0, -1, -1, 4), NONE);
        due("3: to 1 of NOW", x.rule(0, 0, 1, 0, -1, -1, 1), BAD);
        due("3: to 3 of KEPT", x.rule(0, 1, 1, 0, -1, -1, 3), BAD);
        for (int to : new int[] {Integer.MIN_VALUE, -2, -1, 4, 5, Integer.MAX_VALUE}) {
            due("3: to " + to + " of NOW", x.rule(0, 0, 1, 0, -1, -1, to), BAD);
            due("3: to " + to + " of KEPT", x.rule(-1, 1, 1, 0, 2, 3, to), BAD);
            due("3: to " + to + " of SENT", x.rule(0, 2, 1, 0, -1, -1, to), NONE);
            due("3: NONE ahead of BAD, to " + to, x.rule(4, 0, 1, 0, -1, -1, to), NONE);
            due("3: no such kind, to " + to, x.rule(0, 3, 1, 0, -1, -1, to), NONE);
            due("3: BAD ahead of STATE, to " + to, x.rule(0, 0, 1, 0, -1, 1, to), BAD);
        }
        due("3: NONE ahead of BAD", x.rule(0, 1, 8, 0, -1, -1, 3), NONE);
        due("3: BAD ahead of STATE", x.rule(0, 0, 1, 0, -1, 1, 3), BAD);
        due("3: none came of these", x.count(0), 0);
        due("3: the first one", x.rule(-1, 0, 7, 0, 7, -1, 0), 0);
        due("3: the second one", x.rule(3, 2, 7, 7, 0, 7, 3), 1);
        due("3: two", x.count(0), 2);
    }

    private static void ruleLayers() {
        BlowSeeker x = new BlowSeeker();
        due("3: not its head", x.rule(0, 0, 1, 0, -1, 1, 0), STATE);
        due("3: KEPT does not care", x.rule(0, 1, 1, 0, -1, 1, 0), 0);
        due("3: SENT does not care", x.rule(0, 2, 1, 0, -1, 1, 1), 1);
        due("3: 1 above 2", x.rule(0, 0, 1, 0, -1, 2, 0), 2);
        due("3: 2 not below 1, of another host", x.rule(1, 0, 2, 0, 1, -1, 0), STATE);
        due("3: the second fact of a body counts", x.rule(1, 0, 2, 1, 0, -1, 0), STATE);
        due("3: a spare rule", x.spare(2, 9), -1);
        due("3: counts for the layers, too", x.rule(1, 0, 2, 1, -1, -1, 0), STATE);
        due("3: a ring without a NOT", x.rule(-1, 0, 3, 4, -1, -1, 0), 3);
        due("3: a ring without a NOT", x.rule(-1, 0, 4, 3, -1, -1, 0), 4);
        due("3: a refusal leaves the layers", x.layer(2), 0);
    }

    private static void ruleFull() {
        BlowSeeker x = new BlowSeeker();
        for (int i = 0; i < 12; i++) {
            due("3: rule " + i, x.rule(-1, 1, i % 8, 0, -1, -1, 0), i);
        }
        due("3: FULL", x.rule(-1, 1, 0, 0, -1, -1, 0), FULL);
        due("3: STATE ahead of FULL", x.rule(-1, 0, 0, 1, -1, 0, 0), STATE);
        due("3: BAD ahead of FULL", x.rule(-1, 0, 0, 1, -1, -1, 1), BAD);
        due("3: NONE ahead of FULL", x.rule(-1, 0, 9, 1, -1, -1, 0), NONE);
        due("3: twelve", x.count(0), 12);
        due("3: FULL leaves the layers", x.rule(-1, 0, 5, 1, -1, 2, 0), FULL);
        due("3: FULL leaves the layers", x.layer(5), 0);
    }

    private static void spare() {
        BlowSeeker x = new BlowSeeker();
        due("4: no rule", x.spare(0, 5), NONE);
        x.rule(0, 0, 1, 0, -1, -1, 0);
        x.first(0, 0, 1);
        due("4: it counts", x.facts(0, 0), 3);
        due("4: rule -1", x.spare(-1, 5), NONE);
        due("4: rule 1", x.spare(1, 5), NONE);
        due("4: NONE ahead of BAD", x.spare(1, 101), NONE);
        due("4: 101", x.spare(0, 101), BAD);
        due("4: -2", x.spare(0, -2), BAD);
        due("4: none is spare", x.count(1), 0);
        due("4: 100", x.spare(0, 100), -1);
        due("4: it does not count", x.facts(0, 0), 1);
        due("4: 0", x.spare(0, 0), 100);
        due("4: still not", x.facts(0, 0), 1);
        due("4: one is spare", x.count(1), 1);
        due("4: put in", x.spare(0, -1), 0);
        due("4: it counts again", x.facts(0, 0), 3);
        due("4: put in again", x.spare(0, -1), -1);
    }

    private static void first() {
        BlowSeeker x = new BlowSeeker();
        due("5: host -1", x.first(-1, 0, 1), NONE);
        due("5: host 4", x.first(4, 0, 1), NONE);
        due("5: fact -1", x.first(0, -1, 1), NONE);
        due("5: fact 8", x.first(0, 8, 1), NONE);
        due("5: NONE ahead of BAD", x.first(0, 8, 2), NONE);
        due("5: is 2", x.first(0, 0, 2), BAD);
        due("5: is -1", x.first(0, 0, -1), BAD);
        due("5: none", x.count(4), 0);
        due("5: first", x.first(3, 7, 1), 0);
        due("5: first again", x.first(3, 7, 1), 1);
        due("5: the other one", x.first(0, 0, 1), 0);
        due("5: two", x.count(4), 2);
        due("5: at tick 0", x.facts(3, 0), 128);
        due("5: not at tick 1", x.facts(3, 1), 0);
        due("5: no more", x.first(3, 7, 0), 1);
        due("5: no more again", x.first(3, 7, 0), 0);
        due("5: none at tick 0", x.facts(3, 0), 0);
        due("5: one", x.count(4), 1);
    }

    private static void promise() {
        BlowSeeker x = keptAndSent(1);
        due("6: a 4", x.promise(4, 0, 1, 0), NONE);
        due("6: a -1", x.promise(-1, 0, 1, 0), NONE);
        due("6: p 8", x.promise(0, 8, 1, 0), NONE);
        due("6: p -1", x.promise(0, -1, 1, 0), NONE);
        due("6: b 4", x.promise(0, 0, 4, 0), NONE);
        due("6: b -1", x.promise(0, 0, -1, 0), NONE);
        due("6: q 8", x.promise(0, 0, 1, 8), NONE);
        due("6: q -1", x.promise(0, 0, 1, -1), NONE);
        due("6: as it was", x.broken(), 0);
        due("6: another one", x.promise(0, 0, 2, 0), 0);
        due("6: is broken", x.broken(), 1);
        due("6: and that back", x.promise(0, 0, 1, 0), 0);
        due("6: is not", x.broken(), 0);
    }

    private static void bounds() {
        BlowSeeker x = new BlowSeeker();
        due("7: l 3", x.bounds(3, 0, 0), BAD);
        due("7: l -1", x.bounds(-1, 0, 0), BAD);
        due("7: f 3", x.bounds(0, 3, 0), BAD);
        due("7: f -1", x.bounds(0, -1, 0), BAD);
        due("7: t 7", x.bounds(0, 0, 7), NONE);
        due("7: t -1", x.bounds(0, 0, -1), NONE);
        due("7: BAD ahead of NONE", x.bounds(3, 0, 7), BAD);
        due("7: BAD ahead of NONE", x.bounds(0, 3, -1), BAD);
        due("7: as they were", x.sets(), 1);
        due("7: the most", x.bounds(2, 2, 6), 0);
        due("7: are other ones", x.sets(), 1 + 48 + 20 + 48 * 47 / 2 + 20 * 19 / 2 + 48 * 20);
        due("7: t beyond END is a tick", x.bounds(1, 0, 6), 0);
        due("7: the losses below END", x.sets(), 49);
    }

    private static void blow() {
        BlowSeeker x = new BlowSeeker();
        x.end(2);
        due("8: -1", x.blow(-1), NONE);
        due("8: a host to itself", x.blow(0), NONE);
        due("8: a host to itself", x.blow(5), NONE);
        due("8: a host to itself", x.blow(31), NONE);
        due("8: a loss at END", x.blow(33), NONE);
        due("8: far", x.blow(97), NONE);
        due("8: 199", x.blow(199), NONE);
        due("8: a fall beyond END", x.blow(212), NONE);
        due("8: the least int", x.blow(Integer.MIN_VALUE), NONE);
        due("8: the greatest int", x.blow(Integer.MAX_VALUE), NONE);
        due("8: the last loss", x.blow(30), 1);
        due("8: the last fall", x.blow(211), 2);
        due("8: in hand", x.blow(30), BAD);
        due("8: the first loss", x.blow(1), 3);
        due("8: the first fall", x.blow(200), 4);
        due("8: FULL", x.blow(2), FULL);
        due("8: BAD ahead of FULL", x.blow(1), BAD);
        due("8: NONE ahead of FULL", x.blow(0), NONE);
        due("8: four", x.count(2), 4);
        x.end(6);
        due("8: the last loss of all", x.blow(94), 1);
        due("8: 95 is to itself", x.blow(95), NONE);
        due("8: the last fall of all", x.blow(227), 2);
        due("8: beyond", x.blow(228), NONE);
    }

    private static void clear() {
        BlowSeeker x = keptAndSent(1);
        due("9: none", x.clear(), 0);
        x.blow(1);
        x.blow(2);
        due("9: the run has them", x.facts(1, 1), 0);
        due("9: two", x.clear(), 2);
        due("9: the run has none", x.facts(1, 1), 1);
        due("9: none is left", x.hand(0), NONE);
        due("9: none again", x.clear(), 0);
    }

    private static void facts() {
        BlowSeeker x = new BlowSeeker();
        x.rule(0, 0, 3, 2, -1, -1, 0);
        x.rule(0, 0, 2, 1, -1, -1, 0);
        x.rule(0, 0, 1, 0, -1, -1, 0);
        x.rule(-1, 1, 4, 0, 3, -1, 0);
        x.rule(0, 2, 5, 3, -1, 6, 0);
        x.rule(0, 2, 7, 3, -1, 2, 1);
        x.first(0, 0, 1);
        x.first(1, 0, 1);
        due("10: again and again", x.facts(0, 0), 15);
        due("10: rules of host 0", x.facts(1, 0), 1);
        due("10: kept, and from itself", x.facts(0, 1), 48);
        due("10: a body of two, a NOT", x.facts(1, 1), 0);
        due("10: nothing is kept by itself", x.facts(0, 2), 0);
        due("10: at END", x.facts(0, 4), 0);
        due("10: beyond END", x.facts(0, 5), NONE);
        due("10: tick -1", x.facts(0, -1), NONE);
        due("10: host 4", x.facts(4, 0), NONE);
        due("10: host -1", x.facts(-1, 0), NONE);
        x.end(6);
        due("10: at the new END", x.facts(0, 6), 0);
    }

    private static void factsByLayers() {
        BlowSeeker x = new BlowSeeker();
        x.rule(-1, 0, 2, 0, -1, 1, 0);
        x.rule(-1, 0, 1, 3, -1, -1, 0);
        x.first(0, 0, 1);
        x.first(0, 3, 1);
        x.first(1, 0, 1);
        due("10: 1 comes ahead of NOT 1", x.facts(0, 0), 11);
        due("10: NOT 1 holds", x.facts(1, 0), 5);
        x.rule(-1, 0, 4, 0, -1, 2, 0);
        due("10: a NOT above a NOT", x.facts(0, 0), 27);
        due("10: a NOT above a NOT", x.facts(1, 0), 5);
        x.first(1, 1, 1);
        due("10: FIRST of a lower layer", x.facts(1, 0), 19);
    }

    private static void factsAndBlows() {
        BlowSeeker x = keptAndSent(1);
        x.rule(0, 2, 2, 0, -1, -1, 0);
        x.blow(1);
        due("10: the letter is lost", x.facts(1, 1), 0);
        due("10: the next one is not", x.facts(1, 2), 1);
        due("10: that to itself is not", x.facts(0, 1), 5);
        x.clear();
        x.blow(205);
        due("10: fallen at 1", x.facts(1, 1), 0);
        due("10: fallen ahead of 2", x.facts(1, 2), 0);
        x.clear();
        x.blow(204);
        due("10: has it at 0", x.facts(0, 0), 1);
        due("10: fallen at 1", x.facts(0, 1), 0);
        due("10: what it sent at 0 comes", x.facts(1, 1), 1);
        x.blow(200);
        due("10: the earlier fall counts", x.facts(0, 0), 0);
        due("10: and nothing comes", x.facts(1, 1), 0);
        x.clear();
        x.blow(4);
        due("10: a loss of the way back", x.facts(1, 1), 1);
    }

    private static void letters() {
        BlowSeeker x = new BlowSeeker();
        x.end(2);
        x.rule(0, 2, 1, 0, -1, -1, 1);
        x.rule(-1, 2, 1, 0, 0, -1, 1);
        x.rule(0, 2, 2, 0, -1, -1, 1);
        x.rule(0, 2, 2, 0, -1, -1, 0);
        x.rule(0, 2, 3, 0, -1, 4, 2);
        x.rule(0, 2, 3, 0, -1, 0, 3);
        x.rule(0, 1, 0, 0, -1, -1, 0);
        x.first(0, 0, 1);
        due("11: two facts", x.letters(0, 0, 1), 2);
        due("11: to itself", x.letters(0, 0, 0), 1);
        due("11: with a NOT", x.letters(0, 0, 2), 1);
        due("11: the NOT is there", x.letters(0, 0, 3), 0);
        due("11: of another host", x.letters(0, 1, 1), 0);
        due("11: at END", x.letters(2, 0, 1), 2);
        x.blow(1);
        due("11: lost ones, too", x.letters(0, 0, 1), 2);
        x.blow(204);
        due("11: ahead of its fall", x.letters(0, 0, 1), 2);
        due("11: fallen", x.letters(1, 0, 1), 0);
        x.clear();
        x.blow(201);
        due("11: to a fallen one", x.letters(0, 0, 1), 2);
        due("11: tick 3", x.letters(3, 0, 1), NONE);
        due("11: tick -1", x.letters(-1, 0, 1), NONE);
        due("11: from 4", x.letters(0, 4, 1), NONE);
        due("11: from -1", x.letters(0, -1, 1), NONE);
        due("11: to 4", x.letters(0, 0, 4), NONE);
        due("11: to -1", x.letters(0, 0, -1), NONE);
        x.spare(2, 4);
        due("11: a spare rule", x.letters(0, 0, 1), 1);
    }

    private static void broken() {
        BlowSeeker x = keptAndSent(1);
        due("12: holds", x.broken(), 0);
        x.blow(1);
        due("12: one loss", x.broken(), 0);
        x.blow(17);
        due("12: two losses", x.broken(), 1);
        x.blow(209);
        due("12: b has fallen", x.broken(), 0);
        x.clear();
        x.blow(1);
        x.blow(17);
        x.blow(208);
        due("12: a has fallen", x.broken(), 0);
        x.clear();
        due("12: q is p", x.promise(0, 0, 0, 0), 0);
        due("12: q is p", x.broken(), 0);
        due("12: q is never there", x.promise(0, 0, 0, 7), 0);
        due("12: broken by none", x.broken(), 1);
        due("12: p is never there", x.promise(0, 7, 0, 6), 0);
        due("12: holds", x.broken(), 0);
        x.promise(0, 0, 2, 0);
        x.end(1);
        due("12: at the new END", x.broken(), 1);
        x.blow(206);
        due("12: fallen at END", x.broken(), 0);
    }

    private static void why() {
        BlowSeeker x = new BlowSeeker();
        x.rule(-1, 0, 1, 0, -1, -1, 0);
        x.rule(-1, 0, 1, 2, -1, -1, 0);
        x.rule(-1, 1, 0, 0, -1, -1, 0);
        x.rule(-1, 1, 0, 1, -1, -1, 0);
        x.rule(-1, 2, 2, 0, -1, 5, 3);
        x.rule(-1, 2, 2, 1, -1, -1, 3);
        x.rule(3, 2, 0, 0, -1, -1, 3);
        x.first(0, 0, 1);
        x.first(2, 0, 1);
        x.first(2, 1, 1);
        due("13: FIRST", x.why(0, 0, 0), 0);
        due("13: FIRST ahead of NOW", x.why(2, 0, 1), 0);
        due("13: NOW", x.why(0, 0, 1), 100);
        due("13: the least KEPT one", x.why(0, 1, 0), 202);
        due("13: FIRST is of tick 0 alone", x.why(2, 1, 1), 100);
        due("13: the least SENT one, the least host", x.why(3, 1, 2), 380);
        due("13: the NOW rule whose body is there", x.why(3, 1, 1), 101);
        due("13: it has it not", x.why(3, 1, 0), NONE);
        due("13: KEPT of 1 behind the letter's tick", x.why(3, 2, 0), 203);
        due("13: KEPT ahead of LETTER", x.why(3, 3, 0), 202);
        x.blow(3);
        due("13: that of host 0 is lost", x.why(3, 1, 2), 382);
        x.blow(11);
        due("13: both are lost", x.why(3, 1, 2), NONE);
        x.clear();
        x.spare(2, 1);
        due("13: a spare rule is no why", x.why(0, 1, 0), 203);
        x.spare(2, -1);
        x.first(0, 5, 1);
        due("13: a NOT of a SENT one", x.why(3, 1, 2), 382);
        due("13: host 4", x.why(4, 0, 0), NONE);
        due("13: host -1", x.why(-1, 0, 0), NONE);
        due("13: tick 5", x.why(0, 5, 0), NONE);
        due("13: tick -1", x.why(0, -1, 0), NONE);
        due("13: fact 8", x.why(0, 0, 8), NONE);
        due("13: fact -1", x.why(0, 0, -1), NONE);
        x.blow(200);
        due("13: fallen", x.why(0, 0, 0), NONE);
    }

    private static void layer() {
        BlowSeeker x = new BlowSeeker();
        for (int i = 0; i < 7; i++) {
            due("14: rule " + i, x.rule(-1, 0, 7 - i, 0, -1, 6 - i, 0), i);
        }
        for (int i = 0; i < 8; i++) {
            due("14: layer " + i, x.layer(i), i);
        }
        due("14: as many layers as there can be", x.rule(-1, 1, 0, 7, -1, -1, 0), 7);
        due("14: a ring with a NOT", x.rule(-1, 0, 0, 7, -1, -1, 0), STATE);
        due("14: as it was", x.layer(7), 7);
        due("14: fact 8", x.layer(8), NONE);
        due("14: fact -1", x.layer(-1), NONE);
        BlowSeeker y = new BlowSeeker();
        y.rule(0, 0, 2, 0, -1, 1, 0);
        y.rule(0, 0, 3, 0, 2, -1, 0);
        y.rule(0, 0, 4, 3, -1, -1, 0);
        y.rule(0, 1, 5, 0, -1, 4, 0);
        due("14: not below the second of a body", y.layer(3), 1);
        due("14: not below the first of a body", y.layer(4), 1);
        due("14: KEPT ones do not lift", y.layer(5), 0);
        y.spare(0, 1);
        due("14: spare ones do", y.layer(4), 1);
    }

    private static void seek() {
        BlowSeeker x = keptAndSent(1);
        due("15: no blows are within", x.seek(), 9);
        x.bounds(1, 2, 6);
        due("15: one loss is not enough", x.seek(), 9);
        x.bounds(2, 0, 0);
        due("15: nor are two at tick 0", x.seek(), 9);
        x.bounds(2, 0, 1);
        due("15: two losses", x.seek(), 2);
        due("15: found", x.found(0), 1);
        due("15: found", x.found(1), 17);
        x.spare(0, 3);
        x.rule(0, 1, 0, 0, -1, -1, 0);
        due("15: host 1 does not keep it", x.seek(), 1);
        due("15: found", x.found(0), 17);
        due("15: found", x.found(1), NONE);
        x.spare(1, 3);
        due("15: nothing is sent", x.seek(), 0);
        due("15: found", x.found(0), NONE);
        x.first(0, 0, 0);
        due("15: nothing is first", x.seek(), 9);
        x.first(0, 0, 1);
        due("15: and again", x.seek(), 0);
        x.promise(0, 1, 1, 0);
        due("15: another promise", x.seek(), 9);
        due("15: blows in hand stay", x.blow(200), 1);
        x.promise(0, 0, 1, 0);
        due("15: blows in hand do not count", x.seek(), 0);
        due("15: blows in hand stay", x.count(2), 1);
    }

    /** Hosts 0 and 2 each send one half of what host 1 needs: many sets break it. */
    private static void seekOrder() {
        BlowSeeker x = twoHalves();
        x.bounds(2, 2, 6);
        due("15: one", x.seek(), 1);
        due("15: the least loss", x.found(0), 1);
        x.bounds(0, 2, 6);
        due("15: one fall", x.seek(), 1);
        due("15: of host 2 at tick 0", x.found(0), 202);
        due("18: that fall", x.weak(202), 1);
        due("18: too late", x.weak(206), 0);
        x.bounds(2, 0, 6);
        due("18: a loss", x.weak(1), 1);
        due("18: another loss", x.weak(9), 1);
        due("18: no fall is within", x.weak(202), 0);
        x.rule(0, 2, 2, 0, -1, -1, 3);
        x.rule(3, 2, 2, 2, -1, -1, 1);
        x.rule(2, 2, 3, 3, -1, -1, 3);
        x.rule(3, 2, 3, 3, -1, -1, 1);
        x.rule(1, 1, 2, 2, -1, -1, 0);
        x.rule(1, 1, 3, 3, -1, -1, 0);
        x.end(2);
        x.bounds(2, 2, 6);
        due("15: the ways by host 3", x.seek(), 1);
        due("15: a fall alone", x.found(0), 202);
        x.bounds(2, 0, 6);
        due("15: two losses", x.seek(), 2);
        due("15: the least", x.found(0), 9);
        due("15: the least other one", x.found(1), 11);
        due("18: with 11 or with 29", x.weak(9), 2);
        due("18: with 9", x.weak(11), 1);
        due("18: with 9", x.weak(29), 1);
        due("18: host 0 sends again", x.weak(1), 0);
        x.bounds(1, 1, 6);
        due("15: a loss and a fall are not needed", x.seek(), 1);
        x.bounds(1, 1, 0);
        x.first(2, 3, 0);
        x.first(3, 3, 1);
        x.rule(2, 2, 3, 3, -1, -1, 1);
        due("15: host 3 has the half", x.seek(), 1);
        due("15: and its letter is lost", x.found(0), 13);
        due("18: a loss of nothing", x.weak(6), 0);
    }

    private static void found() {
        BlowSeeker x = keptAndSent(1);
        due("16: not sought", x.found(0), NONE);
        x.bounds(2, 0, 1);
        due("16: weak does not find", x.weak(1), 1);
        due("16: not sought", x.found(0), NONE);
        x.seek();
        due("16: -1", x.found(-1), NONE);
        due("16: 0", x.found(0), 1);
        due("16: 1", x.found(1), 17);
        due("16: 2", x.found(2), NONE);
        x.bounds(0, 0, 0);
        x.end(1);
        due("16: the latest one", x.found(1), 17);
        due("16: safe now", x.seek(), 9);
        due("16: none was found", x.found(0), NONE);
    }

    private static void sets() {
        BlowSeeker x = new BlowSeeker();
        x.end(1);
        x.bounds(2, 2, 6);
        due("17: END 1", x.sets(), 1 + 12 + 8 + 66 + 28 + 96);
        x.bounds(1, 1, 0);
        due("17: one of each", x.sets(), 1 + 12 + 4 + 48);
        x.bounds(0, 2, 0);
        due("17: falls", x.sets(), 1 + 4 + 6);
        x.bounds(0, 1, 1);
        due("17: one fall", x.sets(), 9);
        x.bounds(0, 0, 6);
        due("17: none", x.sets(), 1);
        x.end(6);
        x.bounds(2, 0, 6);
        due("17: losses", x.sets(), 1 + 72 + 2556);
        x.bounds(2, 2, 6);
        due("17: all", x.sets(), 1 + 100 + 4950);
        x.bounds(2, 2, 5);
        due("17: up to 5", x.sets(), 1 + 96 + 96 * 95 / 2);
    }

    private static void weak() {
        BlowSeeker x = keptAndSent(1);
        x.bounds(2, 0, 1);
        due("18: in it", x.weak(1), 1);
        due("18: in it", x.weak(17), 1);
        due("18: not in it", x.weak(2), 0);
        due("18: not within", x.weak(209), 0);
        due("18: a host to itself", x.weak(0), NONE);
        due("18: at END", x.weak(33), NONE);
        due("18: 199", x.weak(199), NONE);
        due("18: beyond END", x.weak(212), NONE);
        due("18: -1", x.weak(-1), NONE);
        due("18: the greatest int", x.weak(Integer.MAX_VALUE), NONE);
        x.bounds(1, 2, 1);
        due("18: safe", x.weak(1), 0);
        x.bounds(2, 0, 1);
        x.promise(0, 0, 3, 0);
        due("18: no blow is needed", x.weak(1), 0);
    }

    private static void shrink() {
        BlowSeeker x = keptAndSent(1);
        due("19: no blows", x.shrink(), STATE);
        x.blow(2);
        x.blow(17);
        due("19: holds", x.shrink(), STATE);
        due("19: they stay", x.count(2), 2);
        x.blow(206);
        x.blow(1);
        due("19: two are enough", x.shrink(), 2);
        due("19: as they came", x.hand(0), 17);
        due("19: as they came", x.hand(1), 1);
        due("19: the run has them", x.facts(1, 2), 0);
        due("19: the run has no others", x.facts(2, 2), 0);
        due("19: nothing goes", x.shrink(), 2);
        x.promise(0, 0, 3, 0);
        due("19: all go", x.shrink(), 0);
        due("19: none", x.count(2), 0);
        due("19: the run has none", x.facts(1, 1), 1);
        due("19: none are needed", x.shrink(), 0);
        BlowSeeker y = twoHalves();
        y.blow(9);
        y.blow(1);
        due("19: by numbers", y.shrink(), 1);
        due("19: the least one went", y.hand(0), 9);
        BlowSeeker z = keptAndSent(1);
        z.end(3);
        z.blow(206);
        z.blow(33);
        z.blow(1);
        z.blow(17);
        due("19: three are needed", z.shrink(), 3);
        due("19: the greatest one went", z.hand(0), 33);
    }

    /** The loss 4 can go only when 8 has gone: a second pass takes it. */
    private static void shrinkAgain() {
        BlowSeeker x = new BlowSeeker();
        x.end(1);
        x.rule(0, 1, 0, 0, -1, -1, 0);
        x.rule(0, 0, 5, 0, 4, 6, 0);
        x.rule(0, 2, 4, 0, -1, -1, 0);
        x.rule(1, 2, 6, 0, -1, -1, 0);
        x.rule(2, 2, 5, 0, -1, -1, 0);
        x.first(0, 0, 1);
        x.first(1, 0, 1);
        x.first(2, 0, 1);
        x.promise(0, 5, 3, 7);
        x.blow(8);
        due("19: 8 alone", x.broken(), 0);
        x.blow(4);
        due("19: both", x.broken(), 1);
        due("19: again from the least one", x.shrink(), 0);
    }

    private static void mend() {
        BlowSeeker x = new BlowSeeker();
        x.end(2);
        x.rule(0, 1, 0, 0, -1, -1, 0);
        x.rule(0, 2, 0, 0, -1, -1, 1);
        x.first(0, 0, 1);
        x.promise(0, 0, 1, 0);
        due("20: it holds", x.mend(), 0);
        x.bounds(1, 0, 1);
        due("20: no spare rules", x.mend(), NONE);
        x.rule(1, 1, 0, 0, -1, -1, 0);
        x.rule(0, 2, 0, 0, -1, -1, 2);
        x.rule(2, 2, 0, 0, -1, -1, 1);
        x.spare(2, 7);
        x.spare(3, 1);
        due("20: the way by host 2 needs one", x.mend(), 2);
        x.spare(4, 10);
        due("20: host 1 keeps it", x.mend(), 1);
        x.spare(4, 1);
        due("20: a cheaper way", x.mend(), 6);
        due("20: nothing is put in", x.count(1), 3);
        due("20: nothing is put in", x.letters(0, 0, 2), 0);
        x.spare(2, 2);
        due("20: of two the least number", x.mend(), 1);
        x.spare(2, 3);
        due("20: the least sum", x.mend(), 6);
        x.spare(3, 0);
        x.spare(4, 0);
        due("20: for nothing", x.mend(), 6);
        x.spare(2, 0);
        due("20: all for nothing", x.mend(), 1);
        x.bounds(2, 0, 1);
        due("20: two blows do not count", x.mend(), 1);
        x.bounds(0, 0, 6);
        due("20: no blow is within", x.mend(), 0);
        x.spare(1, 50);
        due("20: broken by none", x.seek(), 0);
        due("20: a way by host 2", x.mend(), 12);
        x.bounds(0, 1, 6);
        due("20: host 2 may fall", x.mend(), 1);
        x.spare(2, -1);
        due("20: one is put in", x.mend(), 1);
        due("20: seeking goes on", x.seek(), 0);
    }

    private static void mendFive() {
        BlowSeeker x = new BlowSeeker();
        for (int i = 0; i < 5; i++) {
            x.rule(-1, 1, 7, 7, -1, -1, 0);
            x.spare(i, 0);
        }
        x.rule(0, 0, 1, 0, -1, -1, 0);
        x.spare(5, 0);
        x.rule(0, 1, 0, 0, -1, -1, 0);
        x.first(0, 0, 1);
        x.promise(0, 0, 0, 1);
        due("20: the sixth does not count", x.mend(), NONE);
        x.spare(2, -1);
        due("20: it is the fifth now", x.mend(), 16);
        x.spare(0, -1);
        due("20: and the fourth", x.mend(), 8);
        BlowSeeker y = new BlowSeeker();
        for (int i = 0; i < 5; i++) {
            y.rule(0, 0, i + 1, i, -1, -1, 0);
            y.spare(i, 100);
        }
        y.rule(0, 1, 0, 0, -1, -1, 0);
        y.first(0, 0, 1);
        y.promise(0, 0, 0, 5);
        due("20: all five at the highest price", y.mend(), 31);
    }

    private static void count() {
        BlowSeeker x = new BlowSeeker();
        x.rule(0, 0, 1, 0, -1, -1, 0);
        x.rule(0, 0, 1, 0, -1, -1, 0);
        x.rule(0, 0, 1, 0, -1, -1, 0);
        x.spare(1, 0);
        x.spare(2, 100);
        x.blow(1);
        for (int host = 0; host < 4; host++) {
            x.first(host, 7, 1);
        }
        due("21: rules", x.count(0), 3);
        due("21: spare ones", x.count(1), 2);
        due("21: blows", x.count(2), 1);
        due("21: END", x.count(3), 4);
        due("21: first", x.count(4), 4);
        due("21: -1", x.count(-1), NONE);
        due("21: 5", x.count(5), NONE);
    }

    private static void hand() {
        BlowSeeker x = new BlowSeeker();
        x.blow(203);
        x.blow(1);
        x.blow(17);
        due("22: -1", x.hand(-1), NONE);
        due("22: 0", x.hand(0), 203);
        due("22: 1", x.hand(1), 1);
        due("22: 2", x.hand(2), 17);
        due("22: 3", x.hand(3), NONE);
        due("22: a refusal", x.blow(0), NONE);
        due("22: 3", x.hand(3), NONE);
    }

    /** Host 0 keeps fact 0 and sends it to host 1, which keeps it. END 2. */
    private static BlowSeeker keptAndSent(int to) {
        BlowSeeker x = new BlowSeeker();
        x.end(2);
        x.rule(-1, 1, 0, 0, -1, -1, 0);
        x.rule(0, 2, 0, 0, -1, -1, to);
        x.first(0, 0, 1);
        x.promise(0, 0, to, 0);
        return x;
    }

    /** Host 1 makes 4 of 2, which host 0 sends, and 3, which host 2 sends. END 1. */
    private static BlowSeeker twoHalves() {
        BlowSeeker x = new BlowSeeker();
        x.end(1);
        x.rule(0, 1, 0, 0, -1, -1, 0);
        x.rule(0, 2, 2, 0, -1, -1, 1);
        x.rule(2, 2, 3, 3, -1, -1, 1);
        x.rule(1, 0, 4, 2, 3, -1, 0);
        x.first(0, 0, 1);
        x.first(2, 3, 1);
        x.promise(0, 0, 1, 4);
        return x;
    }
}
