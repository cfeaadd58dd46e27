import java.util.Random;

/** What it is: the document's first sentences, each of them by one run; their edges are in the terms' tests. */
public final class WhatItIsTest {
    private static final String HERE = "What it is";
    private static final int[] NUMBERS = {Integer.MIN_VALUE, -1, 0, 1, 2, 3, 5, 7, 16, 99, 100, 299, 300, 1000, Integer.MAX_VALUE};

    public static void main(String[] args) {
        all();
        Due.end();
    }

    static void all() {
        Sentences.test(HERE, "Rows that come ask a service outside, some at a time;", WhatItIsTest::someAtATime);
        String underWay = "asks and answers are under way, get lost, come twice, late;";
        Sentences.test(HERE, underWay, WhatItIsTest::asksGetLost);
        Sentences.test(HERE, underWay, WhatItIsTest::answersGetLost);
        Sentences.test(HERE, underWay, WhatItIsTest::theyComeTwice);
        Sentences.test(HERE, underWay, WhatItIsTest::theyComeLate);
        String goOut = "answers go out in order or as they come, but never across a mark;";
        Sentences.test(HERE, goOut, WhatItIsTest::inOrder);
        Sentences.test(HERE, goOut, WhatItIsTest::asTheyCome);
        String sameNumber = "asks are sent again under the same number, so that a service that knows its numbers acts once;";
        Sentences.test(HERE, sameNumber, WhatItIsTest::theServiceActsOnce);
        Sentences.test(HERE, sameNumber, WhatItIsTest::alsoBehindARestart);
        Sentences.test(HERE, "answers are kept for a while;", WhatItIsTest::answersAreKept);
        Sentences.test(HERE, "a restart begins again from what was saved.", WhatItIsTest::aRestart);
        String calls = "An object is used for at most 512 calls after it has been made; what later calls answer is free.";
        Sentences.test(HERE, calls, WhatItIsTest::the512thCallAnswersAsDue);
        Sentences.test(HERE, calls, WhatItIsTest::laterCallsEndAndDoNotThrow);
    }

    private static void someAtATime() {
        Run r = Run.with(2, 1, 1, 2, 3, 4, 5);
        for (int row = 0; row < 5; row++) {
            Due.due("told(4)", r.told(4), Math.min(2, 5 - row));
            Due.due("an answer", r.answer(row), 1);
        }
        Due.dueAll("outs", r.outs(), "0 1 2 3 4");
        Due.dueAll("values", r.values(), "101 201 301 401 501");
    }

    private static void asksGetLost() {
        Run r = Run.with(1, 1, 1);
        r.lose(0, 0);
        r.tick(10);
        Due.due("an answer to the second ask", r.answer(0), 1);
        Due.due("value(0)", r.value(0), 101);
    }

    private static void answersGetLost() {
        Run r = Run.with(1, 1, 1);
        r.serve(0);
        r.lose(1, 0);
        r.tick(10);
        Due.due("an answer to the second ask", r.answer(0), 1);
        Due.due("value(0)", r.value(0), 101);
    }

    private static void theyComeTwice() {
        Run r = Run.with(1, 1, 1);
        r.twice(0, 0);
        r.serve(0);
        r.serve(0);
        r.twice(1, 0);
        Due.due("the first answer", r.arrive(0), 1);
        Due.due("the same once more", r.arrive(1), 0);
        Due.due("that to the second ask", r.arrive(0), 0);
        Due.dueAll("outs", r.outs(), "0");
        Due.dueAll("counts", r.counts(1), "1");
    }

    private static void theyComeLate() {
        Run r = Run.with(1, 1, 1);
        r.serve(0);
        r.tick(20);
        Due.dueAll("results", r.results(), "3");
        Due.due("an answer that is late", r.arrive(0), 0);
        Due.dueAll("results", r.results(), "3");
        Due.dueAll("values", r.values(), "0");
    }

    /** Rows 0, 1, 3 and 4, with a mark between them; they are answered from the last to the first. */
    private static Run backward(int order) {
        Run r = Run.with(4, order, 1, 2);
        r.mark();
        r.rows(3, 4);
        for (int row : new int[] {4, 3, 1, 0}) {
            Due.dueAll("none behind the mark is out", r.outs().replaceAll("[01 ]", ""), "");
            r.answer(row);
        }
        return r;
    }

    private static void inOrder() {
        Due.dueAll("outs", backward(1).outs(), "0 1 2 3 4");
    }

    private static void asTheyCome() {
        Due.dueAll("outs", backward(2).outs(), "1 0 2 3 4");
    }

    private static void theServiceActsOnce() {
        Run r = new Run(1, 1);
        r.set(1, 5);
        r.row(1, 100);
        for (int i = 0; i < 4; i++) {
            Due.due("serve(0)", r.serve(0), i == 0 ? 1 : 0);
            r.lose(1, 0);
            r.tick(10);
        }
        Due.due("serve(0)", r.serve(0), 0);
        Due.due("arrive(0)", r.arrive(0), 1);
        Due.due("value(0)", r.value(0), 101);
        Due.due("count(1)", r.count(1), 1);
    }

    private static void alsoBehindARestart() {
        Run r = Run.with(1, 1, 1);
        r.save();
        r.answer(0);
        r.restart();
        Due.due("serve(0)", r.serve(0), 0);
        Due.due("arrive(0)", r.arrive(0), 1);
        Due.due("count(1)", r.count(1), 1);
    }

    private static void answersAreKept() {
        Run r = new Run(1, 1);
        r.keep(1, 3);
        r.tick(3);
        r.rows(1);
        r.tick(1);
        r.rows(1);
        Due.dueAll("results", r.results(), "0 1 -1");
    }

    private static void aRestart() {
        Run r = Run.with(1, 1, 1, 2, 3);
        r.answer(0);
        r.save();
        r.answer(1);
        r.rows(4);
        Due.dueAll("states", r.states(), "3 3 1 0");
        r.restart();
        Due.dueAll("states", r.states(), "3 1 0 4");
        Due.dueAll("outs", r.outs(), "0");
    }

    private static void the512thCallAnswersAsDue() {
        Run r = new Run(16, 1);
        r.manyRows(16);
        while (r.callsGiven() < Run.MOST_CALLS - 1) {
            r.tick(1);
        }
        Due.due("told(0)", r.told(0), Run.MOST_CALLS - 1 - 16);
        Due.due("calls", r.callsGiven(), Run.MOST_CALLS);
    }

    /** Answers are free then, but rule 7 of LANGUAGE.md is for any state. */
    private static void laterCallsEndAndDoNotThrow() {
        for (int seed = 0; seed < 20; seed++) {
            Random random = new Random(seed);
            OutsideAsks x = new OutsideAsks(1 + seed, seed);
            for (int call = 0; call < 20 * Run.MOST_CALLS; call++) {
                anyCall(x, random.nextInt(18), number(random), number(random));
            }
        }
    }

    private static int number(Random random) {
        return random.nextBoolean() ? random.nextInt(8) : NUMBERS[random.nextInt(NUMBERS.length)];
    }

    private static void anyCall(OutsideAsks x, int which, int a, int b) {
        switch (which) {
            case 0 -> x.set(a, b);
            case 1 -> x.row(a, b);
            case 2 -> x.mark();
            case 3 -> x.tick(a);
            case 4 -> x.serve(a);
            case 5 -> x.refuse(a, b);
            case 6 -> x.arrive(a);
            case 7 -> x.lose(a, b);
            case 8 -> x.twice(a, b);
            case 9 -> x.under(a, b);
            case 10 -> x.out(a, b);
            case 11 -> x.value(a);
            case 12 -> x.item(a, b);
            case 13 -> x.count(a);
            case 14 -> x.kept(a);
            case 15 -> x.save();
            case 16 -> x.restart();
            default -> x.told(a);
        }
    }
}
