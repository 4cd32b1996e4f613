/** Edges of loads that are balanced, of the fewest weights for all loads, and of rest in winds: promises 23 to 25. */
final class WeightEdges {
    private static final int MIN = Integer.MIN_VALUE;
    private static final int MAX = Integer.MAX_VALUE;

    private WeightEdges() { }

    static void run() {
        balanced();
        balancedByTheFewest();
        balancedRefused();
        weights();
        weightsAreEnough();
        weightsRefused();
        rest();
        restOverMidnight();
        restByTheSeed();
        restRefused();
    }

    private static void balanced(DownByAHair x, int load, int... due) {
        for (int what = 0; what < 3; what++) Due.is("balanced " + load + " " + what, x.balanced(load, what), due[what]);
    }

    private static void cannot(DownByAHair x, int load) {
        balanced(x, load, -1, -1, -1);
    }

    private static void balanced() {
        Due.term("BALANCED: a load W (1 .. 999) beside some THINGS against others, by WEIGHTS alone: WEIGHTS on the other side less those beside it are W.");
        Due.promise(23, "BALANCED: 0 how many THINGS, 1 all that are used (bits), 2 those beside the load.");
        balanced(Made.withThings(1), 1, 1, 1, 0);
        cannot(Made.withThings(1), 2);
        balanced(Made.withThings(999), 999, 1, 1, 0);
        cannot(Made.withThings(999), 998);
        balanced(Made.withThings(999, 1), 998, 2, 3, 2);
        balanced(Made.withThings(998, 999), 1, 2, 3, 1);
        balanced(Made.withThings(500, 499), 999, 2, 3, 0);
        cannot(Made.withThings(500, 500), 999);
        cannot(Made.withThings(500, 500), 1);
        DownByAHair all = Made.withThings(1, 2, 4, 8, 16, 32, 64, 128, 256, 400, 44, 44);
        balanced(all, 999, 12, 4095, 0);
        balanced(Made.withThings(83, 83, 83, 83, 83, 83, 83, 83, 83, 83, 83, 83), 996, 12, 4095, 0);
        // the load with eleven ones against the twelfth thing
        balanced(Made.withThings(1, 1, 1, 1, 1, 1, 1, 1, 1, 1, 1, 999), 988, 12, 4095, 2047);
        balanced(Made.withThings(999, 1, 1, 1, 1, 1, 1, 1, 1, 1, 1, 1), 988, 12, 4095, 4094);
        Due.is("the twelfth thing alone", Made.withThings(2, 2, 2, 2, 2, 2, 2, 2, 2, 2, 2, 999).balanced(999, 1), 2048);
        DownByAHair told = Made.withThings(7, 2);
        told.put(0, 0);
        told.put(1, 1);
        Tape.read(told, "bears 500;safe 1=2;");
        told.by(0);
        told.weather(0, 0, 9);
        told.beam(1, 99, 9999);
        balanced(told, 5, 2, 3, 2);
        Twins.idle("balanced", Made::furnished, x -> x.balanced(24, 1), 10);
    }

    private static void balancedByTheFewest() {
        Due.term("By the fewest THINGS; of like ones the lowest set of all that are used, then the lowest set of those beside it.");
        balanced(Made.withThings(1, 2, 3), 3, 1, 4, 0);
        balanced(Made.withThings(3, 1, 2, 3), 3, 1, 1, 0);
        balanced(Made.withThings(1, 4, 5, 2, 3), 9, 2, 6, 0);
        balanced(Made.withThings(5, 9, 1, 4, 3), 4, 1, 8, 0);
        // 4 is 5 less 1 (of 0 and 2), 9 less 5 (of 0 and 1), 1 and 3 (of 2 and 3): the lowest set is 0 and 1
        balanced(Made.withThings(5, 9, 1, 3), 4, 2, 3, 1);
        // like ones: the first two
        balanced(Made.withThings(6, 6, 6, 6), 12, 2, 3, 0);
        balanced(Made.withThings(6, 6, 6, 6, 5), 1, 2, 17, 16);
        // a set of three is taken only where none of two is, though its number is lower
        balanced(Made.withThings(1, 2, 4, 6, 1), 7, 2, 9, 0);
        balanced(Made.withThings(1, 2, 4, 900, 907), 7, 2, 24, 8);
    }

    private static void balancedRefused() {
        Due.promise(23, "NONE: it can't be, and for others.");
        for (int what = 0; what < 3; what++) {
            int asked = what;
            for (int load : new int[] {0, -1, 1000, 1001, MIN, MAX}) {
                Twins.idle("balanced " + load + " " + what, Made::furnished, x -> x.balanced(load, asked), -1);
            }
            Due.is("no things", new DownByAHair().balanced(1, what), -1);
            Due.is("1000 of two", Made.withThings(999, 1).balanced(1000, what), -1);
            Due.is("0 of two like ones", Made.withThings(5, 5).balanced(0, what), -1);
            Twins.idle("it can't be", Made::full, x -> x.balanced(79, asked), -1);
        }
        Due.is("all twelve together", Made.full().balanced(78, 1), 4095);
        for (int what : new int[] {-1, -2, 3, 4, MIN, MAX}) {
            Twins.idle("balanced 1 " + what, Made::furnished, x -> x.balanced(1, what), -1);
        }
    }

    private static void weights(int n, int... due) {
        DownByAHair x = new DownByAHair();
        Due.is("how many for " + n, x.weights(n, -1), due.length);
        for (int i = 0; i < due.length; i++) Due.is("weight " + i + " for " + n, x.weights(n, i), due[i]);
        for (int i = due.length; i < 7; i++) Due.is("no weight " + i + " for " + n, x.weights(n, i), -1);
    }

    /** One weight more is needed behind 1, 4, 13 and 40 loads. */
    private static void weights() {
        Due.promise(24, "WEIGHTS: how many (i NONE), the i-th (0 ..).");
        weights(1, 1);
        weights(2, 1, 2);
        weights(3, 1, 2);
        weights(4, 1, 3);
        weights(5, 1, 2, 3);
        weights(6, 1, 2, 3);
        weights(7, 1, 2, 4);
        weights(12, 1, 3, 8);
        weights(13, 1, 3, 9);
        weights(14, 1, 2, 3, 8);
        weights(39, 1, 3, 9, 26);
        weights(40, 1, 3, 9, 27);
        Twins.idle("weights", Made::furnished, x -> x.weights(40, 3), 27);
    }

    private static boolean covers(int n, int... weights) {
        boolean[] made = new boolean[4 * 60 + 1];
        int ways = 1;
        for (int i = 0; i < weights.length; i++) ways *= 3;
        for (int way = 0; way < ways; way++) {
            int load = 0;
            int rest = way;
            for (int weight : weights) {
                load += (rest % 3 - 1) * weight;
                rest /= 3;
            }
            if (load >= 1 && load < made.length) made[load] = true;
        }
        for (int load = 1; load <= n; load++) {
            if (!made[load]) return false;
        }
        return true;
    }

    /** No set that is lower, in the order of w1, then w2, .., is enough: all up to 60 are tried. */
    private static int[] lowest(int n) {
        for (int a = 1; a <= 60; a++) if (covers(n, a)) return new int[] {a};
        for (int a = 1; a < 60; a++) {
            for (int b = a + 1; b <= 60; b++) if (covers(n, a, b)) return new int[] {a, b};
        }
        for (int a = 1; a < 59; a++) {
            for (int b = a + 1; b < 60; b++) {
                for (int c = b + 1; c <= 60; c++) if (covers(n, a, b, c)) return new int[] {a, b, c};
            }
        }
        for (int a = 1; a < 4; a++) {
            for (int b = a + 1; b < 59; b++) {
                for (int c = b + 1; c < 60; c++) {
                    for (int d = c + 1; d <= 60; d++) if (a + b + c + d >= n && covers(n, a, b, c, d)) return new int[] {a, b, c, d};
                }
            }
        }
        return new int[0];
    }

    private static void weightsAreEnough() {
        Due.term("WEIGHTS for all loads 1 .. n (n 1 to 40): numbers w1 < w2 < .., as few as can be, so that each load is some of them less some others; of like ones the least w1, then w2, ..");
        for (int n = 1; n <= 40; n++) weights(n, lowest(n));
    }

    private static void weightsRefused() {
        Due.promise(24, "NONE: there is none such, and for others.");
        for (int i = -1; i < 5; i++) {
            int asked = i;
            for (int n : new int[] {0, -1, 41, 42, MIN, MAX}) {
                Twins.idle("weights " + n + " " + i, Made::furnished, x -> x.weights(n, asked), -1);
            }
        }
        for (int i : new int[] {-2, -3, 4, 5, MIN, MAX}) Twins.idle("weights 40 " + i, Made::furnished, x -> x.weights(40, i), -1);
        for (int i : new int[] {-2, 1, 2, 3, 4, MIN, MAX}) Twins.idle("weights 1 " + i, Made::furnished, x -> x.weights(1, i), -1);
    }

    private static void rest(String what, DownByAHair x, int seed, int n, int level, int longest) {
        Due.is(what + " level", x.rest(seed, n, 0), level);
        Due.is(what + " longest", x.rest(seed, n, 1), longest);
    }

    private static DownByAHair dull(int dull) {
        DownByAHair x = new DownByAHair();
        x.beam(10, 10, dull);
        return x;
    }

    private static void rest() {
        Due.promise(25, "REST: 0 in how many, 1 the longest row.");
        rest("one hour", dull(90), 0, 1, 1, 1);
        rest("99 hours", dull(90), 0, 99, 99, 99);
        rest("99 hours of the last seed", dull(90), 9999, 99, 99, 99);
        // of the seeds 3, 11 and 7 the first WIND is -9, 9 and 0
        rest("the least wind", dull(90), 3, 1, 1, 1);
        rest("the least wind", dull(89), 3, 1, 0, 0);
        rest("the greatest wind", dull(90), 11, 1, 1, 1);
        rest("the greatest wind", dull(89), 11, 1, 0, 0);
        rest("no wind", dull(0), 7, 1, 1, 1);
        // 80, 40, -80 by the seed 0, then -50: X is 17, 2882, 30002, 15543
        rest("first", dull(79), 0, 1, 0, 0);
        rest("second", dull(79), 0, 2, 1, 1);
        rest("third", dull(79), 0, 3, 1, 1);
        rest("fourth", dull(79), 0, 4, 2, 1);
        rest("all four", dull(80), 0, 4, 4, 4);
        Twins.idle("rest", Made::furnished, x -> x.rest(9999, 99, 0), 0);
        DownByAHair never = Made.withThings(999);
        never.put(0, 0);
        rest("never", never, 0, 99, 0, 0);
    }

    /** At hour 23 alone a thing bears 1000; by any wind the beam is level at the others. */
    private static void restOverMidnight() {
        Due.term("(What is BORNE by that HOUR and WIND.)");
        for (int hour = 0; hour < 24; hour++) {
            for (int n : new int[] {1, 2, 23, 24, 25, 48, 99}) {
                DownByAHair x = Made.withThings(1);
                Tape.read(x, "bears 1000*(hour/23);");
                x.by(0);
                x.put(0, 1);
                x.beam(1, 1, 90);
                x.weather(hour, 0, 0);
                int level = 0;
                int row = 0;
                int longest = 0;
                for (int i = 0; i < n; i++) {
                    row = (hour + i) % 24 == 23 ? 0 : row + 1;
                    level += row > 0 ? 1 : 0;
                    longest = Math.max(longest, row);
                }
                rest("from hour " + hour + " for " + n, x, 5, n, level, longest);
                Due.is("the hour stays", x.about(4), hour);
                Due.is("the wind stays", x.about(6), 0);
                Due.is("no step more", x.about(9), 1);
            }
        }
        DownByAHair wind = Made.withThings(1);
        Tape.read(wind, "bears 100+wind;");
        wind.by(0);
        wind.put(0, 1);
        wind.beam(1, 10, 1000);
        rest("what the wind adds it takes away", wind, 77, 99, 99, 99);
        wind.beam(1, 10, 999);
        rest("but for the rest", wind, 77, 99, 0, 0);
        DownByAHair wet = Made.withThings(1);
        Tape.read(wet, "bears 100*wet;");
        wet.by(0);
        wet.put(0, 1);
        wet.weather(0, 9, 9);
        wet.beam(1, 1, 989);
        Due.is("by the wet that is", wet.rest(11, 1, 0), 1);
        wet.beam(1, 1, 809);
        Due.is("by the wet that is", wet.rest(11, 1, 0), 0);
    }

    private static void restByTheSeed() {
        Due.term("REST by a SEED: X is SEED (0 .. 9999) * 7 + 17; for n hours (1 .. 99) from HOUR on, one behind the other: WIND is X mod 19 less 9, X being (X * 167 + 43) mod 30089 then: in how many the beam is LEVEL; the longest row of such hours.");
        for (int seed : new int[] {0, 1, 2, 4298, 4299, 5000, 9998, 9999}) {
            for (int dull : new int[] {0, 9, 10, 40, 89}) {
                long x = seed * 7L + 17;
                int level = 0;
                int row = 0;
                int longest = 0;
                for (int i = 0; i < 99; i++) {
                    long wind = x % 19 - 9;
                    row = Math.abs(10 * wind) <= dull ? row + 1 : 0;
                    level += row > 0 ? 1 : 0;
                    longest = Math.max(longest, row);
                    x = (x * 167 + 43) % 30089;
                    if (i % 14 == 0) rest("seed " + seed + " dull " + dull + " hours " + (i + 1), dull(dull), seed, i + 1, level, longest);
                }
                rest("seed " + seed + " dull " + dull, dull(dull), seed, 99, level, longest);
            }
        }
    }

    private static void restRefused() {
        Due.promise(25, "NONE for others.");
        for (int seed : new int[] {-1, -2, 10000, 10001, MIN, MAX}) Twins.idle("rest " + seed + " 1 0", Made::furnished, x -> x.rest(seed, 1, 0), -1);
        for (int n : new int[] {0, -1, 100, 101, MIN, MAX}) Twins.idle("rest 0 " + n + " 0", Made::furnished, x -> x.rest(0, n, 0), -1);
        for (int what : new int[] {-1, -2, 2, 3, MIN, MAX}) Twins.idle("rest 0 1 " + what, Made::furnished, x -> x.rest(0, 1, what), -1);
    }
}
