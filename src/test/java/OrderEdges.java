/** Edges of the orders of loading: promises 17 and 18. */
final class OrderEdges {
    private static final int MIN = Integer.MIN_VALUE;
    private static final int MAX = Integer.MAX_VALUE;

    private OrderEdges() { }

    static void run() {
        loadings();
        loadingsAreSafe();
        loadingsRefused();
        gentle();
        gentleOfLikeOnes();
        gentleGreatest();
        gentleRefused();
    }

    private static DownByAHair twelve() {
        return Made.withThings(1, 2, 3, 4, 5, 6, 7, 8, 9, 10, 11, 12);
    }

    private static void loadings() {
        Due.term("LOADINGS: how many.");
        Due.promise(17, "LOADINGS of a set into PANS (bits: by THINGS).");
        long orders = 1;
        for (int count = 0; count <= 10; count++) {
            orders *= Math.max(1, count);
            int low = (1 << count) - 1;
            int high = low << 12 - count;
            long due = orders;
            DownByAHair x = twelve();
            for (int set : new int[] {low, high}) {
                for (int pans : new int[] {0, set, set & 0x555, set & 0xaaa}) Due.is("loadings " + set + " " + pans, x.loadings(set, pans), due);
            }
        }
        Twins.idle("loadings of ten", Made::full, x -> x.loadings(4092, 1364), 3628800);
        Twins.idle("loadings of none", Made::furnished, x -> x.loadings(0, 0), 1);
        Due.is("none of no things", new DownByAHair().loadings(0, 0), 1);
    }

    private static void loadingsAreSafe() {
        Due.term("==== III. A LOADING of some THINGS (a set, in no PAN now; 10 at most), each into a PAN told (bits, of these THINGS alone: 1 right): an order of them in which all is SAFE behind each, what lies now lying there.");
        // of 1, 2 and 3 to the left only 1 3 2 and 2 3 1 never weigh 3
        Due.is("behind the first and the second", Made.ruled("safe left#3;", 1, 2, 3).loadings(7, 0), 2);
        Due.is("behind the last", Made.ruled("safe left#6;", 1, 2, 3).loadings(7, 0), 0);
        Due.is("not ahead of the first", Made.ruled("safe left>0;", 1, 2, 3).loadings(7, 0), 6);
        Due.is("just safe", Made.ruled("safe left<=6;", 1, 2, 3).loadings(7, 0), 6);
        Due.is("just not", Made.ruled("safe left<6;", 1, 2, 3).loadings(7, 0), 0);
        Due.is("by the pans told", Made.ruled("safe left<6;", 1, 2, 3).loadings(7, 4), 6);
        Due.is("where nothing is safe", Made.ruled("safe 1=2;", 5).loadings(1, 0), 0);
        Due.is("an order of none", Made.ruled("safe 1=2;", 5).loadings(0, 0), 1);
        DownByAHair x = Made.ruled("safe left<=10 and hour=0;", 8, 2, 3);
        Due.is("what lies now counts", x.put(0, 0), 8);
        Due.is("just safe with it", x.loadings(2, 0), 1);
        Due.is("not safe with it", x.loadings(4, 0), 0);
        Due.is("in the other pan", x.loadings(4, 4), 1);
        x.weather(1, 0, 0);
        Due.is("at another hour", x.loadings(2, 0), 0);
        DownByAHair y = Made.ruled("bears weight*(1+pan);safe right<=10;", 5, 6);
        Due.is("as it bears in that pan", y.loadings(1, 1), 1);
        Due.is("as it bears in that pan", y.loadings(2, 2), 0);
    }

    private static void loadingsRefused() {
        Due.promise(17, "NONE for others.");
        for (int out = 0; out < 12; out++) {
            int eleven = 4095 - (1 << out);
            Due.is("eleven without " + out, twelve().loadings(eleven, 0), -1);
        }
        Due.is("twelve", twelve().loadings(4095, 0), -1);
        for (int bit = 12; bit < 32; bit++) Due.is("bit " + bit, twelve().loadings(1 << bit, 0), -1);
        // furnished: things 3 and 4 lie nowhere, 0 and 2 right, 1 left
        for (int set : new int[] {1, 2, 4, 7, 9, 26, 32, 40, 2048, 4096, -1, MIN, MAX}) {
            Twins.idle("loadings " + set + " 0", Made::furnished, x -> x.loadings(set, 0), -1);
        }
        for (int pans : new int[] {1, 16, 24, 4096, -1, MIN, MAX}) {
            Twins.idle("loadings 8 " + pans, Made::furnished, x -> x.loadings(8, pans), -1);
        }
        Twins.idle("pans of no thing", Made::furnished, x -> x.loadings(0, 8), -1);
        Twins.idle("a thing that isn't told", DownByAHair::new, x -> x.loadings(1, 0), -1);
    }

    private static void gentle() {
        Due.promise(18, "GENTLE: what NONE: the greatest MOMENT without its sign; else the THING that is laid so many behind the first (0 ..).");
        DownByAHair x = Made.withThings(4, 3, 2);
        int[] due = {30, 1, 0, 2};
        for (int what = -1; what < 3; what++) Due.is("gentle " + what, x.gentle(7, 2, what), due[what + 1]);
        // ten by turns left and right: never more than one of them
        DownByAHair y = Made.withThings(7, 7, 7, 7, 7, 7, 7, 7, 7, 7, 7, 7);
        Due.is("ten", y.gentle(4092, 0x554, -1), 70);
        for (int what = 0; what < 10; what++) Due.is("ten " + what, y.gentle(4092, 0x554, what), what + 2);
        Twins.idle("gentle", Made::furnished, z -> z.gentle(24, 8, 0), 4);
        Twins.idle("gentle of none", Made::furnished, z -> z.gentle(0, 0, -1), 0);
        Due.is("none where nothing is safe", Made.ruled("safe 1=2;").gentle(0, 0, -1), 0);
    }

    private static void gentleOfLikeOnes() {
        Due.term("GENTLE: of these the one whose greatest MOMENT without its sign (behind each) is least; of like ones the lowest first THING, then the next, .. .");
        DownByAHair like = Made.withThings(5, 5, 5, 5);
        for (int what = 0; what < 4; what++) Due.is("like ones to the left " + what, like.gentle(15, 0, what), what);
        // 1 left and 2, 3 right, all like: the order 0 1 2 turns by 1 and by 0, then by 1
        for (int what = 0; what < 3; what++) Due.is("like ones " + what, like.gentle(14, 12, what), what + 1);
        // two to the right ahead of one to the left turn by 2: not the gentle order
        DownByAHair x = Made.withThings(5, 5, 5);
        int[] due = {50, 0, 2, 1};
        for (int what = -1; what < 3; what++) Due.is("by turns " + what, x.gentle(7, 3, what), due[what + 1]);
        // 9 left behind 8 right turns least, and safe orders alone count
        DownByAHair y = Made.ruled("safe right#8 or left#0;", 9, 8);
        Due.is("the safe one", y.gentle(3, 2, -1), 90);
        Due.is("its first", y.gentle(3, 2, 0), 0);
        y.by(-1);
        Due.is("without a law", y.gentle(3, 2, -1), 80);
        Due.is("its first", y.gentle(3, 2, 0), 1);
    }

    private static void gentleGreatest() {
        Due.term("GENTLE: of these the one whose greatest MOMENT without its sign (behind each) is least;");
        DownByAHair x = Made.withThings(50, 49, 50);
        x.put(0, 0);
        Due.is("not ahead of the first", x.gentle(2, 2, -1), 10);
        Due.is("a moment of 0", x.gentle(4, 4, -1), 0);
        Due.is("the thing that makes it", x.gentle(4, 4, 0), 2);
        Due.is("below 0", Made.withThings(5).gentle(1, 1, -1), 50);
        DownByAHair most = Made.ruled("bears 9999;", 1, 1, 1, 1, 1, 1, 1, 1, 1, 1, 1, 1);
        most.beam(99, 1, 0);
        most.weather(0, 0, 9);
        most.put(10, 0);
        most.put(11, 0);
        Due.is("the greatest that can be", most.gentle(1023, 0, -1), 99 * 119988 + 90);
        Due.is("its last", most.gentle(1023, 0, 9), 9);
        // behind thing 0 there is no safe second one: 2 and 4 must lie ahead of it
        DownByAHair late = Made.ruled("safe left#3 and left#5;", 1, 2, 4);
        int[] due = {70, 1, 2, 0};
        for (int what = -1; what < 3; what++) Due.is("not the first " + what, late.gentle(7, 0, what), due[what + 1]);
        Due.is("two orders", late.loadings(7, 0), 2);
        // asked again, and for others in between
        DownByAHair again = Made.withThings(1, 2, 3);
        Due.is("six orders", again.loadings(7, 0), 6);
        Due.is("three", again.gentle(7, 7, -1), 60);
        Due.is("one order", again.loadings(1, 1), 1);
        Due.is("one", again.gentle(1, 1, -1), 10);
        Due.is("none", again.gentle(0, 0, -1), 0);
        Due.is("three again", again.gentle(7, 7, -1), 60);
        Due.is("six orders again", again.loadings(7, 7), 6);
        Due.is("none", again.gentle(0, 0, -1), 0);
        DownByAHair dull = Made.withThings(5);
        dull.beam(10, 10, 9999);
        Due.is("dull counts not", dull.gentle(1, 0, -1), 50);
    }

    private static void gentleRefused() {
        Due.promise(18, "NONE: there is none, and for others.");
        for (int what : new int[] {-1, 0, 1}) {
            Twins.idle("none is safe " + what, () -> Made.ruled("safe left<6;", 1, 2, 3), x -> x.gentle(7, 0, what), -1);
            for (int set : new int[] {1, 2, 7, 26, 32, 4096, MIN, -1}) {
                Twins.idle("gentle " + set + " 0 " + what, Made::furnished, x -> x.gentle(set, 0, what), -1);
            }
            for (int pans : new int[] {1, 16, 4096, MIN, -1}) {
                Twins.idle("gentle 8 " + pans + " " + what, Made::furnished, x -> x.gentle(8, pans, what), -1);
            }
            Due.is("eleven", twelve().gentle(2047, 0, what), -1);
            Due.is("twelve", twelve().gentle(4095, 0, what), -1);
        }
        for (int what : new int[] {-2, -3, 2, 3, 10, MIN, MAX}) {
            Twins.idle("gentle 24 0 " + what, Made::furnished, x -> x.gentle(24, 0, what), -1);
        }
        Due.is("the 11th of ten", twelve().gentle(1023, 0, 10), -1);
        Due.is("the first of none", twelve().gentle(0, 0, 0), -1);
    }
}
