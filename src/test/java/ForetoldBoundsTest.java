/** What is foretold (promises 15 to 23, 25): each bound that the document names has a test of its own. */
public final class ForetoldBoundsTest {
    private static final int MOST = Integer.MAX_VALUE, LEAST = Integer.MIN_VALUE;
    private static final Expect e = new Expect();

    public static void main(String[] args) {
        dipsAreCut();
        aVineDipsEach10Minutes();
        aRootDipsNothing();
        dipOfHighIsNotDown();
        aCutCordIsDown();
        aCordTurnsAtItsSwing();
        aVineSwingsByTwo();
        aSwingOf0();
        aBranchAndARoot();
        inReachIsTwiceArm();
        anArmOf0();
        anArmOf5();
        neitherIsDown();
        dGoesFrom0To60();
        downWithoutAForest();
        hammocksEndWithTheForest();
        whatGoesFrom0To1();
        meetsFrom0To60();
        meetsOfOneAndItself();
        aGiftToItself();
        aGiftTakesAMinute();
        aGiftGoesOnFromTheNextMinuteOn();
        everywhereBehind0();
        aGiftBehind60();
        handsWithin60();
        whoeverIsDownKeepsIt();
        stopsNeitherANorB();
        stopsNothingAsItIs();
        stopsJustInTime();
        slingsBetweenTheOutmostTrees();
        slingsNever();
        slingsJustBehind60();
        staysAsItIs();
        slingsTheLeastOfSeveral();
        slingsBetweenTwoTrees();
        ofThreeNoTwoAlike();
        breaksBy0AndBy10();
        breaksOfOneAndItself();
        breaksInLowestTerms();
        breaksOnlyWhatIsNotCut();
        breaksJustInTime();
        oneAloneBehindMany();
        e.end();
    }

    /** "half of (B less A) (cut)"; "half of that (cut)". */
    private static void dipsAreCut() {
        HammockReach x = Expect.read("t40,0;c3,4,7,0;c3,6,7,0;s3,4,7,0;s3,5,7,0;s0,1,1,0;v0,3,20,0;");
        int[] due = {7, 8, 3, 4, 0, 21};
        for (int h = 0; h < 6; h++) {
            e.is("ahead(" + h + ", 0, 1)", x.ahead(h, 0, 1), due[h]);
        }
        x.sling(0, 0, 11);
        e.is("the farthest", x.ahead(0, 0, 1), 12);
        x.sling(0, 0, 10);
        e.is("one nearer", x.ahead(0, 0, 1), 12);
        x.sling(0, 0, 9);
        e.is("two nearer", x.ahead(0, 0, 1), 11);
    }

    /** "1 more for each 10 MINUTES (cut) so far". */
    private static void aVineDipsEach10Minutes() {
        HammockReach x = Expect.read("t40,0;v3,4,7,0;c3,4,7,0;s3,4,7,0;r3,4,7,0;");
        int[][] due = {{0, 7}, {9, 7}, {10, 8}, {19, 8}, {20, 9}, {59, 12}, {60, 13}};
        for (int[] pair : due) {
            e.is("ahead(0, " + pair[0] + ", 1)", x.ahead(0, pair[0], 1), pair[1]);
        }
        int[] others = {7, 3, 1};
        for (int h = 1; h < 4; h++) {
            e.is("no other one does", x.ahead(h, 60, 1), others[h - 1]);
        }
        x.minutes(9);
        e.is("9 and 0", x.ahead(0, 0, 1), 7);
        e.is("9 and 1", x.ahead(0, 1, 1), 8);
        e.is("9 and 60", x.ahead(0, 60, 1), 13);
        e.is("9 and 10", x.ahead(0, 10, 1), 8);
        e.is("9 and 11", x.ahead(0, 11, 1), 9);
    }

    private static void aRootDipsNothing() {
        HammockReach x = Expect.read("t0,0;o0,11,20,5;r10,11,1,0;c0,1,1,0;s0,1,1,0;");
        e.is("a root", x.ahead(0, 60, 1), 0);
        // HIGH is 0: what dips 0 is not DOWN, a silk of 1 by 2 neither.
        e.is("DOWN", x.down(0), 6);
    }

    /** "DIP is more than HIGH". */
    private static void dipOfHighIsNotDown() {
        HammockReach x = Expect.read("t6,0;c0,1,6,0;c0,1,7,0;s0,1,13,0;s0,1,14,0;r0,6,1,0;r0,7,1,0;");
        e.is("6, 7, 6, 7, 6, 7 of 6", x.down(0), 42);
        HammockReach y = Expect.read("t6,0;v0,1,6,0;v0,1,5,0;v0,1,7,0;o0,11,20,0;");
        int[][] due = {{0, 4}, {9, 4}, {10, 5}, {19, 5}, {20, 7}, {60, 7}};
        for (int[] pair : due) {
            e.is("down(" + pair[0] + ")", y.down(pair[0]), pair[1]);
        }
        HammockReach z = Expect.read("t40,5;c0,11,20,0;v0,11,20,0;r0,11,20,0;");
        e.is("the most of a new forest", z.down(0), 0);
        for (int i = 0; i < 5; i++) {
            z.minutes(24);
        }
        e.is("25 and 15 in 159", z.down(39), 0);
        e.is("25 and 16 in 160", z.down(40), 2);
    }

    /** "It is DOWN, if its cord is CUT". */
    private static void aCutCordIsDown() {
        HammockReach x = Expect.read("t40,5;c0,1,1,0;s0,1,1,0;v0,1,1,0;r0,1,1,0;o0,1,1,0;");
        for (int h = 0; h < 5; h++) {
            e.is("none", x.down(0), 0);
            e.is("cut", x.cord(h, 1), 1 << h);
            e.is("down now", x.down(0), 1 << h);
            e.is("down then", x.down(60), 1 << h);
            e.is("its DIP stays", x.ahead(h, 0, 1), h == 1 || h == 4 ? 0 : 1);
            e.is("it reaches none", x.reach(h, 0), 0);
            e.is("none reaches it", x.reach((h + 1) % 5, 0) & 1 << h, 0);
            x.cord(h, 0);
            e.is("it reaches all", x.reach(h, 0), 31 & ~(1 << h));
        }
    }

    /** "first up from 0 to SWING, back over 0 to SWING below it, and back, over and over". */
    private static void aCordTurnsAtItsSwing() {
        places("c0,1,1,1", new int[] {1, 3, 1, -1, 1, 3, 1, -1, 1});
        places("s0,1,1,1", new int[] {1, 3, 1, -1, 1, 3, 1, -1, 1});
        places("c0,1,1,2", new int[] {1, 3, 5, 3, 1, -1, -3, -1, 1, 3, 5});
        places("c0,1,1,5", new int[] {1, 3, 5, 7, 9, 11, 9, 7, 5, 3, 1, -1, -3, -5, -7, -9, -7, -5, -3, -1, 1, 3});
        HammockReach x = Expect.read("t9,0;c10,11,1,5;");
        e.is("the highest", x.ahead(0, 5, 0), 31);
        x.minutes(24);
        e.is("24 and 60, 84 is 4 of 20", x.ahead(0, 60, 0), 29);
        e.is("24 and 1", x.ahead(0, 1, 0), 31);
        e.is("24 and 2", x.ahead(0, 2, 0), 29);
    }

    /** "of a vine as of a cord in MINUTE t by 2 (cut)". */
    private static void aVineSwingsByTwo() {
        places("v0,1,1,1", new int[] {1, 1, 3, 3, 1, 1, -1, -1, 1, 1, 3});
        places("v0,1,1,2", new int[] {1, 1, 3, 3, 5, 5, 3, 3, 1, 1, -1, -1, -3, -3, -1, -1, 1});
        HammockReach x = Expect.read("t9,0;v0,1,1,5;");
        x.minutes(1);
        e.is("1", x.ahead(0, 0, 0), 1);
        e.is("1 and 1", x.ahead(0, 1, 0), 3);
        e.is("1 and 9", x.ahead(0, 9, 0), 11);
        e.is("1 and 10", x.ahead(0, 10, 0), 11);
        e.is("1 and 11", x.ahead(0, 11, 0), 9);
        e.is("1 and 39", x.ahead(0, 39, 0), 1);
        e.is("1 and 41", x.ahead(0, 41, 0), 3);
    }

    /** "(SWING 0: 0)". */
    private static void aSwingOf0() {
        for (String sort : new String[] {"c", "s", "v", "r", "o"}) {
            HammockReach x = Expect.read("t9,0;" + sort + "4,7,1,0;");
            for (int d = 0; d <= 60; d++) {
                e.is(sort + " in " + d, x.ahead(0, d, 0), 11);
            }
        }
    }

    /** "of a branch 0; of a root SWING". */
    private static void aBranchAndARoot() {
        places("r0,1,1,5", new int[] {1, 1, 1, 1});
        places("o0,1,1,1", new int[] {3, 3, 3, 3});
        places("o10,11,1,5", new int[] {31, 31, 31, 31});
    }

    private static void places(String hammock, int[] due) {
        HammockReach x = Expect.read("t9,0;" + hammock + ";");
        for (int d = 0; d < due.length; d++) {
            e.is(hammock + " in " + d, x.ahead(0, d, 0), due[d]);
        }
    }

    /** "WHERE they are is no more than twice ARM apart". */
    private static void inReachIsTwiceArm() {
        HammockReach x = Expect.read("t9,2;r4,5,1,0;r5,8,1,0;r6,8,1,0;r1,4,1,0;r1,3,1,0;");
        // At 9, 13, 14, 5, 4.
        e.is("4 above and below", x.reach(0, 0), 10);
        e.is("back from above", x.reach(1, 0), 5);
        e.is("back from below", x.reach(3, 0), 17);
        e.is("5 above", x.reach(2, 0), 2);
        e.is("5 below", x.reach(4, 0), 8);
    }

    private static void anArmOf0() {
        HammockReach x = Expect.read("t9,0;r2,7,1,0;r4,5,1,0;r4,6,1,0;r3,5,1,0;");
        e.is("at one place", x.reach(0, 0), 2);
        e.is("half a place above", x.reach(2, 0), 0);
        e.is("half a place below", x.reach(3, 0), 0);
    }

    private static void anArmOf5() {
        HammockReach x = Expect.read("t40,5;r0,1,1,0;r5,6,1,0;r5,7,1,0;o10,11,1,5;");
        // At 1, 11, 12, 31.
        e.is("10", x.reach(0, 0), 2);
        e.is("11", x.reach(2, 0), 2);
        e.is("19", x.reach(3, 0), 0);
        x.sling(1, 10, 11);
        e.is("10 from 31", x.reach(3, 0), 2);
    }

    /** "Two, neither of which is DOWN". */
    private static void neitherIsDown() {
        HammockReach x = Expect.read("t5,5;c4,5,5,0;c4,5,6,0;v4,5,5,0;o4,5,20,0;");
        e.is("without 1", x.reach(0, 0), 12);
        e.is("1 reaches none", x.reach(1, 0), 0);
        e.is("9", x.reach(0, 9), 12);
        e.is("10, the vine is DOWN", x.reach(0, 10), 8);
        e.is("and reaches none", x.reach(2, 10), 0);
        e.is("nor itself", x.reach(3, 10), 1);
        x.cord(3, 1);
        x.cord(0, 1);
        e.is("two that are DOWN", x.reach(0, 0), 0);
    }

    /** "d MINUTES from now (0 to 60)". */
    private static void dGoesFrom0To60() {
        HammockReach x = Expect.read("t9,1;o0,1,1,0;o1,2,1,0;o2,3,1,0;");
        for (int d : new int[] {0, 60}) {
            e.is("ahead", x.ahead(0, d, 0), 1);
            e.is("down", x.down(d), 0);
            e.is("reach", x.reach(0, d), 2);
            e.is("everywhere", x.everywhere(0, d), d == 0 ? 1 : 7);
            e.is("stops", x.stops(0, 2, d), d == 0 ? 0 : 2);
            e.is("breaks", x.breaks(0, 2, d, 0, 0), d == 0 ? 0 : 1);
        }
        for (int d : new int[] {-1, 61, LEAST, MOST}) {
            e.is("ahead", x.ahead(0, d, 0), Expect.BAD);
            e.is("ahead, DIP", x.ahead(0, d, 1), Expect.BAD);
            e.is("down", x.down(d), Expect.BAD);
            e.is("reach", x.reach(0, d), Expect.BAD);
            e.is("everywhere", x.everywhere(0, d), Expect.BAD);
            e.is("stops", x.stops(0, 2, d), Expect.BAD);
            e.is("breaks", x.breaks(0, 2, d, 0, 0), Expect.BAD);
            e.is("breaks, alike", x.breaks(0, 0, d, 0, 0), Expect.BAD);
        }
    }

    /** "STATE: no FOREST (ahead of BAD)". */
    private static void downWithoutAForest() {
        HammockReach x = new HammockReach();
        for (int d : new int[] {0, 60, 61, -1}) {
            e.is("down(" + d + ")", x.down(d), Expect.STATE);
        }
    }

    private static void hammocksEndWithTheForest() {
        HammockReach x = Expect.read("t9,1;o0,1,1,0;o1,2,1,0;o2,3,1,0;");
        none(x, new int[] {-1, 3, 5, 6, LEAST, MOST});
        none(new HammockReach(), new int[] {0, 1, -1});
    }

    /** Beside it 0, 1 and 2 are asked for, which are there in the first of the two. */
    private static void none(HammockReach x, int[] hammocks) {
        for (int h : hammocks) {
            e.is("ahead", x.ahead(h, 0, 0), Expect.BAD);
            e.is("reach", x.reach(h, 0), Expect.BAD);
            e.is("meet a", x.meet(h, 2), Expect.BAD);
            e.is("meet b", x.meet(2, h), Expect.BAD);
            e.is("soonest a", x.soonest(h, 2), Expect.BAD);
            e.is("soonest b", x.soonest(2, h), Expect.BAD);
            e.is("soonest alike", x.soonest(h, h), Expect.BAD);
            e.is("hands a", x.hands(h, 2), Expect.BAD);
            e.is("hands b", x.hands(2, h), Expect.BAD);
            e.is("hands alike", x.hands(h, h), Expect.BAD);
            e.is("everywhere", x.everywhere(h, 0), Expect.BAD);
            e.is("stops a", x.stops(h, 2, 9), Expect.BAD);
            e.is("stops b", x.stops(2, h, 9), Expect.BAD);
            e.is("toSling c", x.toSling(h, 0, 2, 0), Expect.BAD);
            e.is("toSling a", x.toSling(0, h, 2, 0), Expect.BAD);
            e.is("toSling b", x.toSling(0, 2, h, 0), Expect.BAD);
            e.is("breaks a", x.breaks(h, 2, 9, 5, 0), Expect.BAD);
            e.is("breaks b", x.breaks(2, h, 9, 5, 0), Expect.BAD);
            e.is("breaks alike", x.breaks(h, h, 9, 5, 0), Expect.BAD);
        }
    }

    private static void whatGoesFrom0To1() {
        HammockReach x = Expect.read("t9,1;c0,3,1,0;o1,2,1,0;o2,3,1,0;");
        e.is("WHERE", x.ahead(0, 0, 0), 3);
        e.is("DIP", x.ahead(0, 0, 1), 2);
        for (int what : new int[] {2, -1, LEAST, MOST}) {
            e.is("ahead", x.ahead(0, 0, what), Expect.BAD);
            e.is("toSling", x.toSling(0, 1, 2, what), Expect.BAD);
            e.is("breaks", x.breaks(0, 1, 9, 5, what), Expect.BAD);
            e.is("breaks, alike", x.breaks(0, 0, 9, 5, what), Expect.BAD);
        }
    }

    /** "behind how many MINUTES (0 to 60) they are IN REACH first; NONE". */
    private static void meetsFrom0To60() {
        e.is("now", Expect.read("t9,0;c0,1,1,1;o0,1,1,0;").meet(0, 1), 0);
        e.is("behind 1", Expect.read("t9,0;c0,1,1,1;o0,3,1,0;").meet(0, 1), 1);
        e.is("at the lowest", Expect.read("t9,0;c1,2,1,1;o0,1,1,0;").meet(0, 1), 3);
        e.is("never", Expect.read("t9,0;c0,1,1,1;o1,4,1,0;").meet(0, 1), Expect.NONE);
        e.is("never by half a place", Expect.read("t9,0;c0,1,1,1;o0,2,1,0;").meet(0, 1), Expect.NONE);
        // In MINUTE 68 these two are at one place, and in none of the 61 before.
        HammockReach x = Expect.read("t40,0;v8,11,1,5;v0,7,1,4;");
        x.minutes(7);
        e.is("behind 61", x.meet(0, 1), Expect.NONE);
        x.minutes(1);
        e.is("behind 60", x.meet(0, 1), 60);
        e.is("turned", x.meet(1, 0), 60);
    }

    /** "BAD: alike, too". */
    private static void meetsOfOneAndItself() {
        HammockReach x = Expect.read("t9,1;o0,1,1,0;o1,2,1,0;o2,3,1,0;");
        for (int h = 0; h < 3; h++) {
            e.is("meet", x.meet(h, h), Expect.BAD);
            e.is("stops", x.stops(h, h, 9), Expect.BAD);
        }
        e.is("none such and alike", x.meet(3, 3), Expect.BAD);
    }

    /** "(a, b alike: 0.)" */
    private static void aGiftToItself() {
        HammockReach x = Expect.read("t9,1;o0,1,1,0;c0,1,20,0;");
        for (int h = 0; h < 2; h++) {
            e.is("soonest", x.soonest(h, h), 0);
            e.is("hands", x.hands(h, h), 0);
            e.is("everywhere", x.everywhere(h, 60), 1 << h);
        }
        x.cord(0, 1);
        e.is("soonest, CUT", x.soonest(0, 0), 0);
        e.is("hands, CUT", x.hands(0, 0), 0);
    }

    /** "it is there from the next MINUTE on". */
    private static void aGiftTakesAMinute() {
        HammockReach x = Expect.read("t9,1;o0,1,1,0;o1,2,1,0;");
        e.is("meet", x.meet(0, 1), 0);
        e.is("soonest", x.soonest(0, 1), 1);
        e.is("behind 0", x.everywhere(0, 0), 1);
        e.is("behind 1", x.everywhere(0, 1), 3);
    }

    private static void aGiftGoesOnFromTheNextMinuteOn() {
        // The cord is at 3 in MINUTE 0, at 5 in MINUTE 1.
        HammockReach x = Expect.read("t9,0;c1,2,1,5;o0,3,1,0;o1,2,1,0;o1,4,1,0;");
        e.is("to the cord by the first", x.everywhere(1, 1), 7);
        // It can have it in MINUTE 1, and give it then.
        e.is("not both in one MINUTE", x.soonest(1, 3), 2);
        HammockReach y = Expect.read("t9,0;c1,2,1,5;c1,2,1,5;o1,2,1,0;o1,4,1,0;");
        e.is("two that swing alike", y.soonest(2, 3), 2);
        e.is("one minute later the first is gone", y.everywhere(2, 1), 7);
        y.minutes(1);
        // They are at 3 again behind 9, but on the way down; at 5 from there on behind 20 first.
        e.is("gone now", y.soonest(2, 3), 21);
    }

    /** "EVERYWHERE from a, d: who can have it behind d MINUTES". */
    private static void everywhereBehind0() {
        HammockReach x = Expect.read("t9,5;o0,1,1,0;o0,1,1,0;o0,1,1,0;o0,1,1,0;o0,1,1,0;o0,1,1,0;");
        for (int h = 0; h < 6; h++) {
            e.is("behind 0", x.everywhere(h, 0), 1 << h);
            e.is("behind 1", x.everywhere(h, 1), 63);
            e.is("behind 60", x.everywhere(h, 60), 63);
        }
    }

    /** "SOONEST: behind how many MINUTES (0 to 60) b can have it first; NONE". */
    private static void aGiftBehind60() {
        HammockReach x = Expect.read("t40,0;v8,11,1,5;v0,7,1,4;");
        x.minutes(8);
        e.is("given behind 60, there behind 61", x.soonest(0, 1), Expect.NONE);
        e.is("not in time", x.stops(0, 1, 60), 0);
        e.is("not there", x.everywhere(0, 60), 1);
        e.is("not possible", x.breaks(0, 1, 60, 0, 0), 0);
        x.minutes(1);
        e.is("given behind 59, there behind 60", x.soonest(0, 1), 60);
        e.is("there", x.everywhere(0, 60), 3);
        e.is("not before", x.everywhere(0, 59), 1);
        e.is("certain", x.breaks(0, 1, 60, 0, 0), 1);
        e.is("not within 59", x.breaks(0, 1, 59, 0, 0), 0);
    }

    /** "the fewest times it is given so that b has it within 60 MINUTES; NONE". */
    private static void handsWithin60() {
        HammockReach x = Expect.read("t40,0;v8,11,1,5;v0,7,1,4;");
        x.minutes(8);
        e.is("too late", x.hands(0, 1), Expect.NONE);
        x.minutes(1);
        e.is("just in time", x.hands(0, 1), 1);
        HammockReach six = Expect.read("t9,1;o0,1,1,0;o1,2,1,0;o2,3,1,0;o3,4,1,0;o4,5,1,0;o5,6,1,0;");
        e.is("all hands", six.hands(5, 0), 5);
        e.is("one less", six.hands(4, 0), 4);
        six.cord(2, 1);
        e.is("none", six.hands(5, 0), Expect.NONE);
    }

    /** "(whoever is DOWN keeps it, but neither gives nor gets)". */
    private static void whoeverIsDownKeepsIt() {
        // The vine is DOWN from MINUTE 10 on; what it got before stays with it.
        HammockReach x = Expect.read("t9,1;o0,1,1,0;v1,2,9,0;o2,3,1,0;");
        e.is("everywhere", x.everywhere(0, 60), 7);
        x.minutes(8);
        e.is("8: it gets it, and gives it in 9", x.everywhere(0, 60), 7);
        e.is("soonest", x.soonest(0, 2), 2);
        x.minutes(1);
        e.is("9: it gets it, and keeps it", x.everywhere(0, 60), 3);
        e.is("soonest", x.soonest(0, 1), 1);
        e.is("never beyond", x.soonest(0, 2), Expect.NONE);
        e.is("hands", x.hands(0, 2), Expect.NONE);
        x.minutes(1);
        e.is("10: it gets none", x.everywhere(0, 60), 1);
        e.is("nor gives any", x.everywhere(1, 60), 2);
    }

    /** "hammocks (bits; neither a nor b)". */
    private static void stopsNeitherANorB() {
        HammockReach x = Expect.read("t9,1;o0,1,1,0;o1,2,1,0;o2,3,1,0;o3,4,1,0;o4,5,1,0;o5,6,1,0;");
        e.is("all between", x.stops(0, 5, 60), 30);
        e.is("turned", x.stops(5, 0, 60), 30);
        e.is("none between", x.stops(2, 3, 60), 0);
        e.is("one between", x.stops(1, 3, 60), 4);
        e.is("of two", Expect.read("t9,1;o0,1,1,0;o1,2,1,0;").stops(0, 1, 60), 0);
    }

    /** "(0, if it cannot as it is)". */
    private static void stopsNothingAsItIs() {
        HammockReach x = Expect.read("t9,1;o0,1,1,0;o1,2,1,0;o2,3,1,0;o3,4,1,0;");
        e.is("behind 0", x.stops(0, 2, 0), 0);
        e.is("behind 1", x.stops(0, 2, 1), 0);
        e.is("behind 2", x.stops(0, 2, 2), 2);
        x.cord(1, 1);
        e.is("cut already", x.stops(0, 3, 60), 0);
        x.cord(1, 0);
        x.cord(3, 1);
        e.is("b is cut", x.stops(0, 3, 60), 0);
        e.is("another is", x.stops(0, 2, 60), 2);
    }

    /** "b can not have it within d MINUTES": later it can. */
    private static void stopsJustInTime() {
        // The one cord is at both roots within 3, the other one never is at the second.
        HammockReach x = Expect.read("t9,0;o1,2,1,0;c1,2,1,2;o1,2,1,2;c0,3,1,1;");
        // At 3, 3 5 7 5 3, 7, 3 5 3 1 3.
        e.is("soonest", x.soonest(0, 2), 3);
        e.is("within 3", x.stops(0, 2, 3), 2);
        e.is("within 2", x.stops(0, 2, 2), 0);
        e.is("within 60", x.stops(0, 2, 60), 2);
    }

    /** "the trees between which it is to be SLUNG now": 1 and 131 are the least and the most. */
    private static void slingsBetweenTheOutmostTrees() {
        HammockReach x = Expect.read("t9,1;o8,11,1,0;o10,11,1,1;o0,1,1,0;");
        // At 19 and 23: only 21 is in reach of both.
        e.is("10 and 11", x.toSling(2, 0, 1, 0), 131);
        e.is("behind", x.toSling(2, 0, 1, 1), 2);
        HammockReach y = Expect.read("t9,0;o0,1,1,0;o0,3,1,0;c5,6,1,1;");
        // At 1 and 3: a cord of SWING 1 is at 1 and then at 3 from 0 and 1 alone.
        e.is("0 and 1", y.toSling(2, 0, 1, 0), 1);
        e.is("behind", y.toSling(2, 0, 1, 1), 2);
        HammockReach z = Expect.read("t9,0;o0,11,1,5;o10,11,1,5;v0,1,1,5;");
        e.is("a vine that swings high", z.toSling(2, 0, 1, 1), 11);
        e.is("from 10 and 11", z.toSling(2, 0, 1, 0), 131);
    }

    /** "NONE: never". */
    private static void slingsNever() {
        HammockReach x = Expect.read("t9,0;o0,1,1,0;o5,6,1,0;r0,1,1,0;");
        e.is("no trees", x.toSling(2, 0, 1, 0), Expect.NONE);
        e.is("nor MINUTES", x.toSling(2, 0, 1, 1), Expect.NONE);
        HammockReach y = Expect.read("t9,1;o0,1,1,0;o2,3,1,0;o1,2,1,0;");
        e.is("as it is", y.toSling(2, 0, 1, 0), 14);
        y.cord(2, 1);
        e.is("CUT", y.toSling(2, 0, 1, 0), Expect.NONE);
        y.cord(2, 0);
        y.cord(0, 1);
        e.is("a is CUT", y.toSling(2, 0, 1, 0), Expect.NONE);
        y.cord(0, 0);
        y.cord(1, 1);
        e.is("b is CUT", y.toSling(2, 0, 1, 1), Expect.NONE);
    }

    private static void slingsJustBehind60() {
        // a and b meet of themselves in MINUTE 68; the cord is DOWN between all trees.
        HammockReach x = Expect.read("t19,0;v8,11,1,5;v0,7,1,4;c0,1,20,0;");
        x.minutes(8);
        e.is("there behind 61", x.toSling(2, 0, 1, 1), Expect.NONE);
        e.is("no trees", x.toSling(2, 0, 1, 0), Expect.NONE);
        x.minutes(1);
        e.is("there behind 60", x.toSling(2, 0, 1, 1), 60);
        e.is("it stays", x.toSling(2, 0, 1, 0), 1);
    }

    /** "(or stay)"; "(as it is, if none is sooner: how it is slung)". */
    private static void staysAsItIs() {
        HammockReach x = Expect.read("t9,1;o0,1,1,0;o2,3,1,0;o0,3,1,0;");
        e.is("3, the least of 3 and 14", x.toSling(2, 0, 1, 0), 3);
        x.sling(2, 1, 2);
        e.is("14, as it is", x.toSling(2, 0, 1, 0), 14);
        x.sling(2, 7, 8);
        e.is("3, as it is not", x.toSling(2, 0, 1, 0), 3);
        HammockReach y = Expect.read("t9,1;o0,1,1,0;o1,2,1,0;o10,11,1,0;");
        e.is("it is needed for nothing", y.toSling(2, 0, 1, 0), 131);
        e.is("behind", y.toSling(2, 0, 1, 1), 1);
        e.is("nothing is SLUNG", y.hammock(2, 0), 10);
        e.is("no ACT", y.count(6), 0);
    }

    /** "of several 12 times A and B least". */
    private static void slingsTheLeastOfSeveral() {
        // At 9 and 13, so that it has to be at 11: 0 and 11 to 5 and 6, of which what dips least is last.
        String two = "o4,5,1,0;o6,7,1,0;";
        e.is("of a root", Expect.read("t3,1;" + two + "o0,1,1,0;").toSling(2, 0, 1, 0), 11);
        e.is("of a branch that may dip 11", Expect.read("t11,1;" + two + "r0,1,1,0;").toSling(2, 0, 1, 0), 11);
        e.is("10", Expect.read("t10,1;" + two + "r0,1,1,0;").toSling(2, 0, 1, 0), 22);
        e.is("9", Expect.read("t9,1;" + two + "r0,1,1,0;").toSling(2, 0, 1, 0), 22);
        e.is("3", Expect.read("t3,1;" + two + "r0,1,1,0;").toSling(2, 0, 1, 0), 55);
        e.is("2", Expect.read("t2,1;" + two + "r0,1,1,0;").toSling(2, 0, 1, 0), 66);
        e.is("0: never", Expect.read("t0,1;" + two + "r0,1,1,0;").toSling(2, 0, 1, 0), Expect.NONE);
        e.is("11, but it is so already", Expect.read("t11,1;" + two + "r5,6,1,0;").toSling(2, 0, 1, 0), 66);
    }

    /** "B above A": a branch between a tree and itself would dip 0, and be where no other two trees are. */
    private static void slingsBetweenTwoTrees() {
        // At 8 and 12, so that it has to be at 10.
        String two = "o3,5,1,0;o5,7,1,0;r0,1,1,0;";
        e.is("0", Expect.read("t0,1;" + two).toSling(2, 0, 1, 0), Expect.NONE);
        e.is("1", Expect.read("t1,1;" + two).toSling(2, 0, 1, 0), Expect.NONE);
        e.is("2", Expect.read("t2,1;" + two).toSling(2, 0, 1, 0), 54);
        // At 22 and 24: between 9 and 11 a cord is at 22, but never at 24; between 11 and 11 it would be.
        HammockReach x = Expect.read("t40,0;o9,11,1,1;o9,11,1,2;c0,1,1,1;");
        e.is("never", x.toSling(2, 0, 1, 0), Expect.NONE);
    }

    /** "BAD: two of the three alike, too". */
    private static void ofThreeNoTwoAlike() {
        HammockReach x = Expect.read("t9,1;o0,1,1,0;o1,2,1,0;o2,3,1,0;");
        for (int c = 0; c < 3; c++) {
            for (int a = 0; a < 3; a++) {
                for (int b = 0; b < 3; b++) {
                    boolean bad = a == b || a == c || b == c;
                    e.is("toSling(" + c + ", " + a + ", " + b + ")", x.toSling(c, a, b, 1) == Expect.BAD ? 1 : 0, bad ? 1 : 0);
                }
            }
        }
    }

    /** "(c 0 to 10)"; "fractions in lowest terms (0 is 0 by 1)". */
    private static void breaksBy0AndBy10() {
        HammockReach x = Expect.read("t9,1;o0,1,1,0;o1,2,1,0;o2,3,1,0;");
        fraction(x, 0, 2, 60, 0, 1, 1);
        fraction(x, 0, 2, 60, 10, 0, 1);
        fraction(x, 0, 2, 60, 9, 1, 1000);
        fraction(x, 0, 2, 60, 1, 729, 1000);
        for (int c : new int[] {-1, 11, LEAST, MOST}) {
            e.is("above", x.breaks(0, 2, 60, c, 0), Expect.BAD);
            e.is("below", x.breaks(0, 2, 60, c, 1), Expect.BAD);
            e.is("alike", x.breaks(0, 0, 60, c, 0), Expect.BAD);
        }
    }

    /** "(a, b alike: 1 by 1)". */
    private static void breaksOfOneAndItself() {
        HammockReach x = Expect.read("t9,1;o0,1,1,0;c1,2,20,0;");
        for (int c = 0; c <= 10; c++) {
            fraction(x, 0, 0, 0, c, 1, 1);
            fraction(x, 1, 1, 60, c, 1, 1);
        }
        x.cord(0, 1);
        x.cord(1, 1);
        fraction(x, 0, 0, 0, 5, 1, 1);
        fraction(x, 0, 1, 60, 5, 0, 1);
    }

    /** All six may break; of each number that is divided by 2, by 5, by neither. */
    private static void breaksInLowestTerms() {
        HammockReach x = Expect.read("t9,1;o0,1,1,0;o1,2,1,0;o2,3,1,0;o3,4,1,0;o4,5,1,0;o5,6,1,0;");
        fraction(x, 0, 5, 60, 9, 1, 1000000);
        fraction(x, 0, 5, 60, 5, 1, 64);
        fraction(x, 0, 5, 60, 8, 1, 15625);
        fraction(x, 0, 5, 60, 1, 531441, 1000000);
        fraction(x, 0, 5, 60, 4, 729, 15625);
        fraction(x, 0, 1, 60, 6, 4, 25);
        fraction(x, 0, 5, 60, 0, 1, 1);
        fraction(x, 0, 5, 60, 10, 0, 1);
        fraction(x, 0, 5, 4, 5, 0, 1);
    }

    /** "the cord of each HAMMOCK (of whatever SORT) that is not CUT breaks now". */
    private static void breaksOnlyWhatIsNotCut() {
        HammockReach x = Expect.read("t9,5;c0,1,1,0;r0,1,1,0;v0,1,1,0;s0,1,1,0;o0,1,1,0;");
        fraction(x, 0, 4, 1, 5, 1, 4);
        fraction(x, 1, 3, 1, 5, 1, 4);
        for (int h = 1; h < 4; h++) {
            x.cord(h, 1);
        }
        fraction(x, 0, 4, 60, 5, 1, 4);
        fraction(x, 0, 1, 60, 0, 0, 1);
        fraction(x, 1, 1, 60, 7, 1, 1);
    }

    /** "that SOONEST from a to b is d or less". */
    private static void breaksJustInTime() {
        // Two ways of two hands, one of which is there behind 2, and the other one behind 3.
        HammockReach x = Expect.read("t9,0;o1,2,1,0;c0,3,1,1;o1,4,1,0;v1,2,1,1;");
        // At 3; 3 5 3 1 3; 5; 3 3 5 5.
        e.is("soonest", x.soonest(0, 2), 2);
        fraction(x, 0, 2, 1, 5, 0, 1);
        fraction(x, 0, 2, 2, 5, 1, 8);
        fraction(x, 0, 2, 3, 5, 3, 16);
        fraction(x, 0, 2, 60, 5, 3, 16);
    }

    /** Of what was foretold of six nothing is left of one. */
    private static void oneAloneBehindMany() {
        HammockReach x = Expect.read("t9,5;o0,1,1,0;o0,1,1,0;o0,1,1,0;o0,1,1,0;o0,1,1,0;o0,1,1,0;");
        e.is("six", x.everywhere(0, 60), 63);
        Expect.feedAll(x, "t9,5;o0,1,1,0;");
        x.forest();
        e.is("one", x.everywhere(0, 60), 1);
        e.is("behind 1", x.everywhere(0, 1), 1);
        e.is("to itself", x.soonest(0, 0), 0);
        Expect.feedAll(x, "t9,0;o0,1,1,0;o0,2,1,0;");
        x.forest();
        e.is("two apart", x.everywhere(0, 60), 1);
        e.is("never", x.soonest(0, 1), Expect.NONE);
    }

    private static void fraction(HammockReach x, int a, int b, int d, int c, int above, int below) {
        String call = "breaks(" + a + ", " + b + ", " + d + ", " + c + ", ";
        e.is(call + "0)", x.breaks(a, b, d, c, 0), above);
        e.is(call + "1)", x.breaks(a, b, d, c, 1), below);
    }
}
