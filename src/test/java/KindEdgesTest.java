/** The six KINDS of 'Terms', sentence by sentence: where numbers are cut, reach an edge or come to nothing. */
public final class KindEdgesTest {
    public static void main(String[] args) {
        Checks c = new Checks();
        cleanIsCut(c);
        cleanChangesNothingElse(c);
        temperBelow(c);
        temperIsCut(c);
        rollIsCut(c);
        rollOfNothing(c);
        rollNumbers(c);
        rollGrades(c);
        rollAsItWas(c);
        sift(c);
        blendNearest(c);
        blendOfTwoTheEven(c);
        blendByGrams(c);
        blendNumber(c);
        partsAreCut(c);
        partsThatLack(c);
        partsOfLikeOnes(c);
        partsStay(c);
        partsOfOthersStay(c);
        packFills(c);
        packRestStays(c);
        packOfItsGrade(c);
        packOfTheStage(c);
        packLotIsGone(c);
        workedUponWhenItEnds(c);
        c.end();
    }

    /** One LOT through one STAGE of one BEAT. */
    private static MillLine through(int kind, int a, int grams, int grade, int damp, int... shares) {
        MillLine x = Checks.one(kind, a, 1, 20, shares);
        x.feed(0, grams, grade, damp, 0);
        x.beat(2);
        return x;
    }

    private static void dueWaste(Checks c, int a, int grams, int waste) {
        MillLine x = through(0, a, grams, 0, 0);
        c.due(grams + " GRAMS times " + a, x.total(3), waste);
        c.due("what stays of " + grams, x.in(3, 0, 1), grams - waste);
    }

    private static void cleanIsCut(Checks c) {
        c.by("CLEAN: GRAMS times a / 1000, cut downwards, are WASTE");
        dueWaste(c, 100, 9, 0);
        dueWaste(c, 100, 10, 1);
        dueWaste(c, 100, 19, 1);
        dueWaste(c, 100, 20, 2);
        dueWaste(c, 1, 999, 0);
        dueWaste(c, 1, 1000, 1);
        c.by("CLEAN: a 0 to 900");
        dueWaste(c, 0, 100000, 0);
        dueWaste(c, 900, 100000, 90000);
        dueWaste(c, 900, 1, 0);
        dueWaste(c, 900, 2, 1);
    }

    private static void cleanChangesNothingElse(Checks c) {
        c.by("CLEAN: the LOT's GRAMS alone");
        MillLine x = through(0, 900, 1000, 9, 999);
        c.due("number", x.in(3, 0, 0), 0);
        c.due("GRADE", x.in(3, 0, 2), 9);
        c.due("DAMP", x.in(3, 0, 3), 999);
        c.due("PART", x.part(0, 0), 1000000);
    }

    private static void dueWater(Checks c, int a, int damp, int grams, int water) {
        MillLine x = through(1, a, grams, 0, damp);
        String text = grams + " GRAMS of DAMP " + damp + " by " + a;
        c.due("WATER to " + text, x.total(1), water);
        c.due("GRAMS of " + text, x.in(3, 0, 1), grams + water);
        c.due("DAMP of " + text, x.in(3, 0, 3), Math.max(a, damp));
    }

    private static void temperBelow(Checks c) {
        c.by("TEMPER: if the LOT's DAMP is below a");
        dueWater(c, 500, 499, 100000, 200);
        dueWater(c, 500, 500, 100000, 0);
        dueWater(c, 500, 501, 100000, 0);
        dueWater(c, 500, 999, 100000, 0);
        dueWater(c, 1, 0, 100000, 100);
        dueWater(c, 1, 1, 100000, 0);
        dueWater(c, 500, 0, 100000, 100000);
    }

    private static void temperIsCut(Checks c) {
        c.by("TEMPER: GRAMS times (a - DAMP) / (1000 - a), cut downwards, and its DAMP is a");
        dueWater(c, 500, 499, 499, 0);
        dueWater(c, 500, 499, 500, 1);
        dueWater(c, 500, 499, 999, 1);
        dueWater(c, 500, 499, 1000, 2);
        dueWater(c, 1, 0, 998, 0);
        dueWater(c, 1, 0, 999, 1);
        dueWater(c, 500, 0, 1, 1);
    }

    private static void dueParts(Checks c, int[] shares, int grams, int... parts) {
        MillLine x = through(2, 0, grams, 0, 0, shares);
        for (int i = 0; i < parts.length; i++) {
            c.due(grams + " GRAMS, OUT " + i, parts[i] == 0 ? x.level(3 + i, 0) : x.in(3 + i, 0, 1), parts[i]);
        }
    }

    private static void rollIsCut(Checks c) {
        c.by("ROLL: each part is cut downwards; the first has what is left besides");
        dueParts(c, Checks.row(500, 500), 2, 1, 1);
        dueParts(c, Checks.row(500, 500), 3, 2, 1);
        dueParts(c, Checks.row(1, 999), 100000, 100, 99900);
        dueParts(c, Checks.row(1, 999), 99999, 100, 99899);
        dueParts(c, Checks.row(333, 333, 334), 100, 34, 33, 33);
        dueParts(c, Checks.row(1, 500, 499), 999, 2, 499, 498);
        dueParts(c, Checks.row(998, 1, 1), 1999, 1997, 1, 1);
    }

    private static void rollOfNothing(Checks c) {
        c.by("ROLL: one of 0 GRAMS is none");
        dueParts(c, Checks.row(999, 1), 999, 999, 0);
        dueParts(c, Checks.row(999, 1), 1000, 999, 1);
        dueParts(c, Checks.row(1, 999), 1, 1, 0);
        dueParts(c, Checks.row(1, 999), 2, 1, 1);
        dueParts(c, Checks.row(500, 1, 499), 100, 51, 0, 49);
        dueParts(c, Checks.row(500, 499, 1), 100, 51, 49, 0);
        dueParts(c, Checks.row(333, 333, 334), 2, 2, 0, 0);
        dueParts(c, Checks.row(333, 333, 334), 3, 2, 0, 1);
    }

    private static void rollNumbers(Checks c) {
        c.by("ROLL: the first keeps the LOT's number; others are new LOTS");
        MillLine x = through(2, 0, 100, 0, 0, 500, 300, 200);
        for (int out = 0; out < 3; out++) {
            c.due("number of OUT " + out, x.in(3 + out, 0, 0), out);
        }
        c.due("LOTS", x.count(1), 3);
        MillLine y = through(2, 0, 100, 0, 0, 500, 1, 499);
        c.due("the third has the next number if the second is none", y.in(5, 0, 0), 1);
        c.due("LOTS", y.count(1), 2);
        MillLine z = through(2, 0, 2, 0, 0, 333, 333, 334);
        c.due("a LOT that stays whole makes none", z.count(1), 1);
        c.due("no such LOT", z.part(1, 0), -1);
    }

    private static void rollGrades(Checks c) {
        c.by("ROLL: the GRADE of the second is 1 more, of the third 2 more (9 at most)");
        for (int grade = 0; grade <= 9; grade++) {
            MillLine x = through(2, 0, 1000, grade, 0, 500, 300, 200);
            for (int out = 0; out < 3; out++) {
                c.due("GRADE " + grade + " OUT " + out, x.in(3 + out, 0, 2), Math.min(9, grade + out));
            }
        }
        MillLine y = through(2, 0, 100, 4, 0, 500, 1, 499);
        c.due("the third is 2 more also if the second is none", y.in(5, 0, 2), 6);
    }

    private static void rollAsItWas(Checks c) {
        c.by("ROLL: all as it was otherwise");
        MillLine x = Checks.bins(6, 5);
        Checks.add(x, 1, 4, 0, 1, Checks.row(0, 1), Checks.row(2));
        Checks.add(x, 0, 2, 0, 1, Checks.row(2), Checks.row(3, 4, 5), 500, 300, 200);
        x.stands();
        x.feed(0, 100, 0, 999, 1);
        x.feed(1, 200, 0, 999, 3);
        x.beat(3);
        int[] lots = {0, 2, 3};
        for (int i = 0; i < 3; i++) {
            c.due("number of OUT " + i, x.in(3 + i, 0, 0), lots[i]);
            c.due("DAMP of OUT " + i, x.in(3 + i, 0, 3), 999);
            c.due("PART 0 of OUT " + i, x.part(lots[i], 0), 0);
            c.due("PART 1 of OUT " + i, x.part(lots[i], 1), 333333);
            c.due("PART 2 of OUT " + i, x.part(lots[i], 2), 0);
            c.due("PART 3 of OUT " + i, x.part(lots[i], 3), 666667);
        }
    }

    private static void sift(Checks c) {
        c.by("SIFT: a LOT whose GRADE is not above a goes to the first, another one to the second");
        for (int a = 0; a <= 9; a++) {
            c.due("GRADE " + a + " of " + a, through(3, a, 1, a, 0).level(3, 0), 1);
            if (a < 9) {
                c.due("GRADE " + (a + 1) + " of " + a, through(3, a, 1, a + 1, 0).level(4, 0), 1);
            }
        }
        c.due("GRADE 0 of 9", through(3, 9, 1, 0, 0).level(3, 0), 1);
        c.due("GRADE 9 of 0", through(3, 0, 1, 9, 0).level(4, 0), 1);
    }

    private static MillLine blend(int[] one, int[] other) {
        MillLine x = Checks.one(4, 0, 1, 20);
        x.feed(0, one[0], one[1], one[2], 0);
        x.feed(1, other[0], other[1], other[2], 1);
        x.beat(2);
        return x;
    }

    private static void dueBlend(Checks c, int[] one, int[] other, int grade, int damp) {
        MillLine x = blend(one, other);
        String text = one[0] + " and " + other[0] + " GRAMS";
        c.due("GRAMS of " + text, x.in(3, 0, 1), one[0] + other[0]);
        c.due("GRADE of " + text, x.in(3, 0, 2), grade);
        c.due("DAMP of " + text, x.in(3, 0, 3), damp);
    }

    private static void blendNearest(Checks c) {
        c.by("BLEND: GRADE and DAMP to the nearest whole number");
        dueBlend(c, Checks.row(3, 2, 100), Checks.row(1, 3, 101), 2, 100);
        dueBlend(c, Checks.row(1, 2, 100), Checks.row(3, 3, 101), 3, 101);
        dueBlend(c, Checks.row(50001, 2, 100), Checks.row(49999, 3, 101), 2, 100);
        dueBlend(c, Checks.row(49999, 2, 100), Checks.row(50001, 3, 101), 3, 101);
        dueBlend(c, Checks.row(7, 9, 999), Checks.row(8, 9, 999), 9, 999);
        dueBlend(c, Checks.row(7, 0, 0), Checks.row(8, 0, 0), 0, 0);
    }

    private static void blendOfTwoTheEven(Checks c) {
        c.by("BLEND: of two the even one");
        dueBlend(c, Checks.row(1, 0, 0), Checks.row(1, 1, 1), 0, 0);
        dueBlend(c, Checks.row(1, 1, 1), Checks.row(1, 2, 2), 2, 2);
        dueBlend(c, Checks.row(1, 2, 2), Checks.row(1, 3, 3), 2, 2);
        dueBlend(c, Checks.row(5, 9, 999), Checks.row(5, 8, 998), 8, 998);
        dueBlend(c, Checks.row(5, 7, 997), Checks.row(5, 8, 998), 8, 998);
        dueBlend(c, Checks.row(100000, 0, 499), Checks.row(100000, 9, 500), 4, 500);
    }

    private static void blendByGrams(Checks c) {
        c.by("BLEND: GRAMS together, GRADE and DAMP by GRAMS");
        dueBlend(c, Checks.row(1, 0, 0), Checks.row(99999, 9, 999), 9, 999);
        dueBlend(c, Checks.row(99999, 0, 0), Checks.row(1, 9, 999), 0, 0);
        dueBlend(c, Checks.row(100000, 9, 999), Checks.row(100000, 9, 999), 9, 999);
        dueBlend(c, Checks.row(2, 9, 0), Checks.row(1, 0, 999), 6, 333);
    }

    private static void blendNumber(Checks c) {
        c.by("BLEND: with the number of the first");
        MillLine x = Checks.one(4, 0, 1, 20);
        x.feed(1, 1, 0, 0, 0);
        x.feed(0, 1, 0, 0, 1);
        x.beat(2);
        c.due("number", x.in(3, 0, 0), 1);
        c.due("one LOT", x.level(3, 0), 1);
        c.due("LOTS in all", x.count(1), 2);
        c.due("the other as it was", x.part(0, 0), 1000000);
    }

    /** LOTS of ORIGINS 0, 1 and 2: the first two are blended, and the LOT of both with the third. */
    private static MillLine blendOfThree(int zero, int one, int two) {
        MillLine x = Checks.bins(5, 20);
        Checks.add(x, 1, 4, 0, 1, Checks.row(0, 1), Checks.row(2));
        Checks.add(x, 0, 4, 0, 1, Checks.row(2, 3), Checks.row(4));
        x.stands();
        x.feed(0, zero, 0, 0, 0);
        x.feed(1, one, 0, 0, 1);
        x.feed(3, two, 0, 0, 2);
        x.beat(3);
        return x;
    }

    private static void dueOrigins(Checks c, MillLine x, int lot, int... parts) {
        for (int origin = 0; origin < 4; origin++) {
            c.due("PART " + origin + " of LOT " + lot, x.part(lot, origin), parts[origin]);
        }
    }

    private static void partsAreCut(Checks c) {
        c.by("PARTS: divided by the GRAMS together, cut downwards");
        dueOrigins(c, blend(Checks.row(1, 0, 0), Checks.row(1, 0, 0)), 0, 500000, 500000, 0, 0);
        dueOrigins(c, blend(Checks.row(1, 0, 0), Checks.row(99999, 0, 0)), 0, 10, 999990, 0, 0);
        // 1000000 / 100001 is 9.9999.
        dueOrigins(c, blend(Checks.row(1, 0, 0), Checks.row(100000, 0, 0)), 0, 9, 999991, 0, 0);
    }

    private static void partsThatLack(Checks c) {
        c.by("PARTS: what lacks to 1,000,000 comes to the greatest");
        dueOrigins(c, blend(Checks.row(1, 0, 0), Checks.row(2, 0, 0)), 0, 333333, 666667, 0, 0);
        dueOrigins(c, blend(Checks.row(2, 0, 0), Checks.row(1, 0, 0)), 0, 666667, 333333, 0, 0);
        // 3 GRAMS of 333333, 666667 and 4 of ORIGIN 2: 142857, 285714 and 571428, and 1 lacks.
        dueOrigins(c, blendOfThree(1, 2, 4), 0, 142857, 285714, 571429, 0);
    }

    private static void partsOfLikeOnes(Checks c) {
        c.by("PARTS: of like ones the lowest ORIGIN");
        dueOrigins(c, blendOfThree(1, 1, 1), 0, 333334, 333333, 333333, 0);
        // 357142 twice and 285714: 2 lack.
        dueOrigins(c, blendOfThree(5, 5, 4), 0, 357144, 357142, 285714, 0);
    }

    private static void partsStay(Checks c) {
        c.by("WATER and WASTE change no PARTS");
        MillLine x = Checks.bins(5, 20);
        Checks.add(x, 2, 4, 0, 1, Checks.row(0, 1), Checks.row(2));
        Checks.add(x, 1, 0, 900, 1, Checks.row(2), Checks.row(3));
        Checks.add(x, 0, 1, 500, 1, Checks.row(3), Checks.row(4));
        x.stands();
        x.feed(0, 100, 0, 0, 2);
        x.feed(1, 200, 0, 0, 3);
        x.beat(4);
        c.due("WASTE", x.total(3), 270);
        c.due("WATER", x.total(1), 30);
        c.due("GRAMS", x.in(4, 0, 1), 60);
        dueOrigins(c, x, 0, 0, 0, 333333, 666667);
    }

    /** LOTS 0 and 2 are blended; 1 and 3, the next numbers, and 4 stay as they were. */
    private static void partsOfOthersStay(Checks c) {
        c.by("PARTS: a BLEND changes those of its first LOT alone");
        for (int origin = 0; origin <= 3; origin++) {
            MillLine x = Checks.one(4, 0, 1, 20);
            int[] bins = {0, 5, 1, 5, 5};
            for (int lot = 0; lot < 5; lot++) {
                x.feed(bins[lot], 10, 0, 0, (origin + lot) % 4);
            }
            x.beat(2);
            c.due("it is blended", x.part(0, origin), 500000);
            for (int lot = 1; lot < 5; lot++) {
                for (int other = 0; other <= 3; other++) {
                    int due = (origin + lot) % 4 == other ? 1000000 : 0;
                    c.due("PART " + other + " of LOT " + lot, x.part(lot, other), due);
                }
            }
        }
    }

    private static void dueSacks(Checks c, int a, int grams, int sacks) {
        MillLine x = through(5, a, grams, 0, 0);
        c.due(grams + " GRAMS by " + a, x.sacks(0), sacks);
        c.due("PACKED", x.total(2), (long) sacks * a);
        c.due("left of " + grams, x.state(0, 8), grams - sacks * a);
        c.due("in STAGES", x.total(6), grams - sacks * a);
    }

    private static void packFills(Checks c) {
        c.by("PACK: SACKS of a GRAMS are filled (a 1 to 50000)");
        dueSacks(c, 100, 99, 0);
        dueSacks(c, 100, 100, 1);
        dueSacks(c, 100, 101, 1);
        dueSacks(c, 100, 199, 1);
        dueSacks(c, 100, 200, 2);
        dueSacks(c, 1, 1, 1);
        dueSacks(c, 1, 100000, 100000);
        dueSacks(c, 50000, 49999, 0);
        dueSacks(c, 50000, 50000, 1);
        dueSacks(c, 50000, 100000, 2);
    }

    private static void packRestStays(Checks c) {
        c.by("PACK: the rest stays");
        MillLine x = Checks.one(5, 100, 1, 20);
        x.feed(0, 99, 0, 0, 0);
        x.feed(0, 1, 0, 0, 0);
        x.feed(0, 199, 0, 0, 0);
        x.beat(2);
        c.due("99: none", x.sacks(0), 0);
        x.beat(1);
        c.due("and 1: one", x.sacks(0), 1);
        x.command(0);
        x.command(1);
        x.beat(2);
        c.due("and 199: another", x.sacks(0), 2);
        c.due("left", x.state(0, 8), 99);
    }

    private static void packOfItsGrade(Checks c) {
        c.by("PACK: what the STAGE has of its GRADE");
        MillLine x = Checks.one(5, 100, 1, 20);
        x.feed(0, 99, 9, 0, 0);
        x.feed(0, 1, 8, 0, 0);
        x.feed(0, 99, 0, 0, 0);
        x.beat(4);
        for (int grade = 0; grade <= 9; grade++) {
            c.due("no SACK of GRADE " + grade, x.sacks(grade), 0);
        }
        c.due("left of all", x.state(0, 8), 199);
        x.feed(0, 1, 9, 0, 0);
        x.feed(0, 1, 0, 0, 0);
        x.beat(3);
        c.due("GRADE 9", x.sacks(9), 1);
        c.due("GRADE 8", x.sacks(8), 0);
        c.due("GRADE 0", x.sacks(0), 1);
    }

    private static void packOfTheStage(Checks c) {
        c.by("PACK: what the STAGE has, not another one");
        MillLine x = Checks.bins(2, 5);
        Checks.add(x, 0, 5, 100, 1, Checks.row(0), Checks.row());
        Checks.add(x, 11, 5, 60, 1, Checks.row(1), Checks.row());
        x.stands();
        x.feed(0, 70, 5, 0, 0);
        x.feed(1, 70, 5, 0, 0);
        x.beat(2);
        c.due("one SACK, of 11", x.sacks(5), 1);
        c.due("left in 0", x.state(0, 8), 70);
        c.due("left in 11", x.state(11, 8), 10);
        c.due("in STAGES", x.total(6), 80);
        x.feed(0, 30, 5, 0, 0);
        x.beat(2);
        c.due("SACKS of both", x.sacks(5), 2);
        c.due("PACKED", x.total(2), 160);
    }

    private static void packLotIsGone(Checks c) {
        c.by("PACK: the LOT is gone");
        MillLine x = through(5, 100, 50, 0, 0);
        c.due("STAGE has none", x.state(0, 6), -1);
        c.due("in BINS", x.total(5), 0);
        c.due("LOTS, also those that are gone", x.count(1), 1);
        c.due("PART as it was", x.part(0, 0), 1000000);
        c.due("the next number", x.feed(0, 1, 0, 0, 0), 1);
    }

    private static void workedUponWhenItEnds(Checks c) {
        c.by("A LOT is worked upon when its WORKING ENDS");
        MillLine x = Checks.one(0, 500, 3, 20);
        x.feed(0, 100, 0, 0, 0);
        x.beat(3);
        c.due("one BEAT to go", x.state(0, 1), 1);
        c.due("as it came", x.state(0, 8), 100);
        c.due("no WASTE", x.total(3), 0);
        x.beat(1);
        c.due("WASTE", x.total(3), 50);
    }
}
