/** Promises 11 to 18: hours, and what will be. */
final class HoursTest {
    private static final Check C = new Check();

    public static void main(String[] args) {
        promise11WaterGoesDown();
        promise11BathersByNumbers();
        promise11WhoComesToKnow();
        promise11Bounds();
        promise12Now();
        promise13Ahead();
        promise14Knows();
        promise15When();
        promise16Cold();
        promise17Left();
        promise18Needed();
        C.end();
    }

    private static void promise11WaterGoesDown() {
        TubSteps x = Check.spa("tub 0 50 of 0 101; tub 8 30 of 2 7; tub 9 88 of 3 9999; tub 4 3 of 1 1; tub 3 4");
        C.due("go(1)", x.go(1), 26);
        C.due("new water is fresh", x.tub(0, 4), 90);
        C.due("new water has no scent", x.tub(0, 6), 0);
        C.due("4 less", x.tub(1, 4), 46);
        C.due("three quarters of 101, cut", x.tub(1, 0), 75);
        C.due("three quarters of 7, cut", x.tub(9, 2), 5);
        C.due("what was in the lowest is gone", x.tub(9, 3), 0);
        C.due("three quarters of 1, cut", x.tub(5, 1), 0);
        C.due("no less than 0", x.tub(5, 4), 0);
        C.due("4 less than 4", x.tub(4, 4), 0);
        C.due("now(0)", x.now(0), 1);
        C.due("go(9)", x.go(9), 90 - 36);
        C.due("now(0)", x.now(0), 10);
        C.due("now(2)", x.now(2), 0);
    }

    private static void promise11BathersByNumbers() {
        TubSteps x = Check.spa("consul in 1; tub 0 50 of 0 101");
        x.go(1);
        C.due("a consul cools by 16", x.tub(1, 4), 30);
        C.due("and adds 128 and the warmth that is left", x.tub(1, 0), 75 + 128 + 30);
        x = Check.spa("consul; duchess with 1");
        x.go(1);
        C.due("a consul ahead of a duchess", x.tub(0, 0), 128 + 74);
        C.due("both cool", x.tub(0, 4), 66);
        x = Check.spa("duchess with 1; consul");
        x.go(1);
        C.due("a consul behind a duchess", x.tub(0, 0), 128 + 66);
        x = Check.spa("sad in 2; sad in 2; sad in 2 with 3; fresh 20; clerk in 5; spy in 6; lamplighter in 7 knows 3");
        x.go(1);
        C.due("the second sad one adds nothing", x.tub(2, 0), 64);
        C.due("the third has another scent", x.tub(2, 3), 64);
        C.due("no colder than 0", x.tub(2, 4), 0);
        C.due("a clerk", x.tub(5, 0), 32);
        C.due("a spy", x.tub(6, 0), 24 / 3);
        C.due("a lamplighter", x.tub(7, 0), 10);
        x.go(1);
        C.due("from the tub above, and by itself", x.tub(7, 0), 8 * 3 / 4 + 10);
        x = Check.spa("tub 0 99 of 0 9999; bather in 1");
        x.go(1);
        C.due("7499 and 64", x.tub(1, 0), 7563);
    }

    private static void promise11WhoComesToKnow() {
        TubSteps x = Check.spa("clerk in 5; duchess in 5 with 1; clerk in 6; bather in 4");
        x.go(1);
        C.due("the clerk smells who came after it by number", x.of(0, 3), 2);
        C.due("the duchess does not smell 32", x.of(1, 3), 0);
        C.due("who is in the tub below does not know yet", x.of(2, 3), 0);
        x.go(1);
        C.due("but an hour later it does", x.of(2, 3), 2);
        C.due("and who is above never", x.of(3, 3), 0);
        x.change(0, 3, 8);
        x.go(1);
        C.due("what it knew it knows still", x.of(0, 3), 10);
        x = Check.spa("lamplighter; duchess with 1; duchess with 2");
        x.go(1);
        C.due("it knows two", x.of(0, 3), 6);
        C.due("but they came too late for what it added", x.tub(0, 0), 8);
        x.go(1);
        C.due("an hour later it adds two more", x.tub(0, 0), 10);
    }

    private static void promise11Bounds() {
        TubSteps x = new TubSteps();
        C.due("go(0)", x.go(0), Check.BEYOND);
        C.due("go(-1)", x.go(-1), Check.BEYOND);
        C.due("go(41)", x.go(41), Check.BEYOND);
        C.due("now(0)", x.now(0), 0);
        C.due("go(40)", x.go(40), 54);
        C.due("now(0)", x.now(0), 40);
        for (int i = 1; i < 2499; i++) {
            x.go(40);
        }
        C.due("now(0)", x.now(0), 99960);
        C.due("go(40) would be one too far", x.go(40), Check.STATE);
        x.image();
        C.due("go(39) is not", x.go(39), 54);
        C.due("undo()", x.undo(), 99960);
        C.due("go(19)", x.go(19), 54);
        C.due("go(21) would be one too far", x.go(21), Check.STATE);
        C.due("go(1)", x.go(1), 54);
        C.due("plugs(20) would be one too far", x.plugs(20), Check.STATE);
        C.due("plugs(19)", x.plugs(19), x.now(1));
        C.due("now(0)", x.now(0), 99999);
        C.due("go(1) beyond it", x.go(1), Check.STATE);
        C.due("plugs(1) beyond it", x.plugs(1), Check.STATE);
        C.due("go(41) there", x.go(41), Check.BEYOND);
        C.due("now(0) as it was", x.now(0), 99999);
        C.due("ahead goes on", x.ahead(9, 4, 60), 54);
        C.due("two findings of going, one of plugs, two at the end", x.status(4), 5);
    }

    private static void promise12Now() {
        TubSteps x = Check.spa("tub 0 39 of 1 5; tub 1 40 of 2 6; tub 9 41 of 1 7; sad with 2 knows 11; spy with 2 knows 15; clerk knows 14");
        C.due("now(0)", x.now(0), 0);
        C.due("now(1)", x.now(1), 120);
        C.due("now(2)", x.now(2), 18);
        C.due("now(3)", x.now(3), 0x1ff & ~2);
        C.due("now(4)", x.now(4), 7);
        x.change(0, 3, 10);
        C.due("now(4): one is wanting", x.now(4), 6);
        C.due("now(5): 2 is known by 1 and 2, 0 by 1", x.now(5), 0);
        x.change(2, 3, 0);
        C.due("now(5): 2 is known by 1 itself", x.now(5), 2);
        x.change(1, 3, 0);
        C.due("now(5): nobody knows anything of others", x.now(5), 7);
        x.go(3);
        C.due("now(0)", x.now(0), 3);
        C.due("now(6)", x.now(6), Check.BEYOND);
        C.due("now(-1)", x.now(-1), Check.BEYOND);
    }

    private static void promise13Ahead() {
        TubSteps x = Check.spa("consul in 1; tub 0 50 of 0 101; tub 0 50 of 3 40");
        C.due("ahead(1, 0, 0)", x.ahead(1, 0, 0), 0);
        C.due("ahead(1, 0, 1)", x.ahead(1, 0, 1), 233);
        C.due("ahead(1, 3, 1)", x.ahead(1, 3, 1), 30);
        C.due("ahead(2, 3, 2)", x.ahead(2, 3, 2), 22);
        C.due("ahead(1, 4, 1)", x.ahead(1, 4, 1), 30);
        C.due("ahead(9, 4, 60)", x.ahead(9, 4, 60), 90 - 36 - 16);
        C.due("ahead(9, 4, 61)", x.ahead(9, 4, 61), Check.BEYOND);
        C.due("ahead(9, 4, -1)", x.ahead(9, 4, -1), Check.BEYOND);
        C.due("ahead(9, 5, 0)", x.ahead(9, 5, 0), Check.BEYOND);
        C.due("ahead(9, -1, 0)", x.ahead(9, -1, 0), Check.BEYOND);
        C.due("ahead(10, 4, 0)", x.ahead(10, 4, 0), Check.BEYOND);
        C.due("ahead(-1, 4, 0)", x.ahead(-1, 4, 0), Check.BEYOND);
        C.due("nothing has changed: hour", x.now(0), 0);
        C.due("nothing has changed: scents", x.now(2), 141);
        C.due("nothing has changed: warmth", x.now(1), 50);
    }

    private static void promise14Knows() {
        TubSteps x = Check.spa("clerk in 5; duchess in 4 with 1; duchess in 3 with 2");
        C.due("knows(0, 0)", x.knows(0, 0), 0);
        C.due("knows(0, 1)", x.knows(0, 1), 0);
        C.due("knows(0, 2)", x.knows(0, 2), 2);
        C.due("knows(0, 3): 72 of 2 are above 50 and a mask of 16", x.knows(0, 3), 6);
        x.scent(0, 3, 9999);
        C.due("knows(0, 5)", x.knows(0, 5), 14);
        C.due("knows(0, 4)", x.knows(0, 4), 6);
        C.due("knows(0, 60)", x.knows(0, 60), 14);
        C.due("knows(0, 61)", x.knows(0, 61), Check.BEYOND);
        C.due("knows(0, -1)", x.knows(0, -1), Check.BEYOND);
        C.due("knows(3, 0)", x.knows(3, 0), Check.BEYOND);
        C.due("knows(-1, 0)", x.knows(-1, 0), Check.BEYOND);
        C.due("nothing has changed", x.count(2), 0);
    }

    private static void promise15When() {
        TubSteps x = Check.spa("clerk in 5 knows 8; duchess in 4 with 1");
        C.due("when(0, 3): it knows", x.when(0, 3), 0);
        C.due("when(0, 1)", x.when(0, 1), 2);
        C.due("when(0, 2)", x.when(0, 2), Check.NONE);
        C.due("when(0, 0): its own", x.when(0, 0), Check.NONE);
        x.go(40);
        x.change(0, 3, 0);
        x.change(0, 1, 3);
        C.due("when(0, 1): by how all is now", x.when(0, 1), Check.NONE);
        C.due("when(0, 4)", x.when(0, 4), Check.BEYOND);
        C.due("when(0, -1)", x.when(0, -1), Check.BEYOND);
        C.due("when(2, 0)", x.when(2, 0), Check.BEYOND);
        C.due("when(-1, 0)", x.when(-1, 0), Check.BEYOND);
        C.due("now(0)", x.now(0), 40);
    }

    private static void promise16Cold() {
        TubSteps x = Check.spa("tub 0 50; tub 1 90; tub 2 90; tub 3 90");
        C.due("cold(3, 39)", x.cold(3, 39), 3);
        C.due("cold(3, 38)", x.cold(3, 38), Check.NONE);
        C.due("cold(3, 87)", x.cold(3, 87), 1);
        C.due("cold(3, 91)", x.cold(3, 91), 0);
        C.due("cold(9, 1)", x.cold(9, 1), 0);
        C.due("cold(9, 0)", x.cold(9, 0), Check.NONE);
        C.due("cold(9, 99)", x.cold(9, 99), 0);
        C.due("cold(9, 100)", x.cold(9, 100), Check.BEYOND);
        C.due("cold(9, -1)", x.cold(9, -1), Check.BEYOND);
        C.due("cold(10, 0)", x.cold(10, 0), Check.BEYOND);
        C.due("cold(-1, 0)", x.cold(-1, 0), Check.BEYOND);
        C.due("nothing has changed", x.now(1), 320);
    }

    private static void promise17Left() {
        TubSteps x = new TubSteps();
        C.due("left(1000, 0)", x.left(1000, 0), 1000);
        C.due("left(1000, 3)", x.left(1000, 3), 421);
        C.due("left(9999, 9)", x.left(9999, 9), 750);
        C.due("left(1, 1)", x.left(1, 1), 0);
        C.due("left(0, 9)", x.left(0, 9), 0);
        C.due("left(10000, 0)", x.left(10000, 0), Check.BEYOND);
        C.due("left(-1, 0)", x.left(-1, 0), Check.BEYOND);
        C.due("left(0, 10)", x.left(0, 10), Check.BEYOND);
        C.due("left(0, -1)", x.left(0, -1), Check.BEYOND);
    }

    private static void promise18Needed() {
        TubSteps x = new TubSteps();
        C.due("needed(500, 9)", x.needed(500, 9), 6675);
        C.due("needed(0, 9)", x.needed(0, 9), 0);
        C.due("needed(501, 9)", x.needed(501, 9), Check.BEYOND);
        C.due("needed(-1, 9)", x.needed(-1, 9), Check.BEYOND);
        C.due("needed(500, 10)", x.needed(500, 10), Check.BEYOND);
        C.due("needed(500, -1)", x.needed(500, -1), Check.BEYOND);
        for (int v = 0; v <= 500; v++) {
            for (int n = 0; n <= 9; n++) {
                int least = x.needed(v, n);
                String call = "needed(" + v + ", " + n + ")";
                C.holds(call + " is enough", x.left(least, n) >= v);
                C.holds(call + " is the least", least == 0 || x.left(least - 1, n) < v);
            }
        }
    }
}
