/** Promises 19 to 27: who with whom, where, as what; what hides; what came out below. */
final class ChoicesTest {
    private static final Check C = new Check();

    public static void main(String[] args) {
        promise19SwapFor();
        promise20Seat();
        promise21KindFor();
        promise22FreshFor();
        promise23Hides();
        promise24Leave();
        promise25PlugFor();
        promise26Fits();
        promise27Kinds();
        nothingChanges();
        C.end();
    }

    private static void promise19SwapFor() {
        TubSteps x = Check.spa("clerk in 9; bather in 1; sad in 2; sad in 2; tub 1 0 of 1 400");
        C.due("swapFor(0, 1): the least who sits in 2", x.swapFor(0, 1), 2);
        C.due("swapFor(0, 0): all alike", x.swapFor(0, 0), 1);
        C.due("swapFor(1, 0): the least is another one", x.swapFor(1, 0), 0);
        C.due("swapFor(0, 40)", x.swapFor(0, 40), 2);
        C.due("swapFor(0, 41)", x.swapFor(0, 41), Check.BEYOND);
        C.due("swapFor(0, -1)", x.swapFor(0, -1), Check.BEYOND);
        C.due("swapFor(4, 0)", x.swapFor(4, 0), Check.BEYOND);
        C.due("swapFor(-1, 0)", x.swapFor(-1, 0), Check.BEYOND);
        TubSteps alone = Check.spa("clerk");
        C.due("swapFor(0, 3) alone", alone.swapFor(0, 3), Check.NONE);
        TubSteps two = Check.spa("spy; spy in 5; tub 3 0 of 1 500; tub 4 0 of 2 500; spy in 4");
        C.due("two scents count more than one", two.swapFor(0, 3), 1);
    }

    private static void promise20Seat() {
        TubSteps x = Check.spa("clerk in 9; tub 4 0 of 1 400; tub 7 0 of 1 400");
        C.due("seat(0, 1): the least of two", x.seat(0, 1), 5);
        x.plug(4);
        C.due("seat(0, 1)", x.seat(0, 1), 8);
        C.due("seat(0, 2)", x.seat(0, 2), Check.NONE);
        C.due("seat(0, 0): its own", x.seat(0, 0), Check.NONE);
        x.change(0, 3, 4);
        C.due("seat(0, 2): it knows", x.seat(0, 2), 0);
        C.due("seat(0, 4)", x.seat(0, 4), Check.BEYOND);
        C.due("seat(0, -1)", x.seat(0, -1), Check.BEYOND);
        C.due("seat(1, 0)", x.seat(1, 0), Check.BEYOND);
        C.due("seat(-1, 0)", x.seat(-1, 0), Check.BEYOND);
        TubSteps late = Check.spa("clerk; duchess in 5 with 1");
        C.due("with the duchess it is soonest", late.seat(0, 1), 5);
        TubSteps near = Check.spa("bather; bather in 1 with 1; bather in 2 with 1; tub 7 0 of 1 400");
        C.due("one hour in 8, two in 2", near.seat(0, 1), 8);
    }

    private static void promise21KindFor() {
        TubSteps x = Check.spa("clerk in 5; tub 4 0 of 1 60");
        C.due("kindFor(0, 1): 45 for a spy, who masks 1", x.kindFor(0, 1), 3);
        C.due("kindFor(0, 0)", x.kindFor(0, 0), 0);
        x.scent(4, 1, 20);
        C.due("15 for a lamplighter", x.kindFor(0, 1), 4);
        x.scent(4, 1, 80);
        C.due("60 for a clerk, who masks 4", x.kindFor(0, 1), 2);
        x.scent(4, 1, 2000);
        C.due("1500 for all", x.kindFor(0, 1), 0);
        C.due("kindFor(0, 40)", x.kindFor(0, 40), 0);
        C.due("kindFor(0, 41)", x.kindFor(0, 41), Check.BEYOND);
        C.due("kindFor(0, -1)", x.kindFor(0, -1), Check.BEYOND);
        C.due("kindFor(1, 0)", x.kindFor(1, 0), Check.BEYOND);
        C.due("kindFor(-1, 0)", x.kindFor(-1, 0), Check.BEYOND);
    }

    private static void promise22FreshFor() {
        TubSteps x = new TubSteps();
        C.due("freshFor(50, 10)", x.freshFor(50, 10), 86);
        C.due("freshFor(50, 9): the lowest is cold", x.freshFor(50, 9), Check.NONE);
        C.due("freshFor(63, 10)", x.freshFor(63, 10), 99);
        C.due("freshFor(64, 10)", x.freshFor(64, 10), Check.NONE);
        C.due("freshFor(0, 0)", x.freshFor(0, 0), 0);
        C.due("freshFor(0, 40)", x.freshFor(0, 40), 0);
        C.due("freshFor(1, 0)", x.freshFor(1, 0), Check.NONE);
        x.bather(6, 3);
        C.due("freshFor(10, 40) with a consul", x.freshFor(10, 40), 62);
        C.due("freshFor(100, 0)", x.freshFor(100, 0), Check.BEYOND);
        C.due("freshFor(-1, 0)", x.freshFor(-1, 0), Check.BEYOND);
        C.due("freshFor(0, 41)", x.freshFor(0, 41), Check.BEYOND);
        C.due("freshFor(0, -1)", x.freshFor(0, -1), Check.BEYOND);
    }

    private static void promise23Hides() {
        TubSteps x = Check.spa("clerk in 1; tub 0 0 of 1 200");
        // 150 come down; hidden if (32 + what comes of the other) / 8 is above 100: from 776 on, of 1035
        C.due("hides(0, 2, 1, 1)", x.hides(0, 2, 1, 1), 1040);
        C.due("hides(0, 0, 1, 1): its own hides as well", x.hides(0, 0, 1, 1), 1040);
        C.due("hides(1, 2, 1, 1): water that goes away", x.hides(1, 2, 1, 1), Check.NONE);
        C.due("hides(0, 2, 1, 0)", x.hides(0, 2, 1, 0), 0);
        C.due("hides(0, 2, 3, 20)", x.hides(0, 2, 3, 20), 0);
        x.scent(0, 2, 5);
        C.due("with 5 of it there", x.hides(0, 2, 1, 1), 1030);
        x.change(0, 3, 2);
        C.due("who knows already does not come to know", x.hides(0, 2, 1, 1), 0);
        x.change(0, 3, 0);
        x.scent(0, 1, 1320);
        C.due("9995 are enough, 9985 not", x.hides(0, 2, 1, 1), 9990);
        x.scent(0, 2, 9);
        C.due("9999 are enough, 9989 not", x.hides(0, 2, 1, 1), 9990);
        x.scent(0, 2, 0);
        C.due("9990 are not", x.hides(0, 2, 1, 1), Check.NONE);
        x.scent(0, 2, 10);
        C.due("10 and 9980 are not", x.hides(0, 2, 1, 1), Check.NONE);
        C.due("hides(0, 1, 1, 0)", x.hides(0, 1, 1, 0), Check.BEYOND);
        C.due("hides(10, 0, 1, 0)", x.hides(10, 0, 1, 0), Check.BEYOND);
        C.due("hides(-1, 0, 1, 0)", x.hides(-1, 0, 1, 0), Check.BEYOND);
        C.due("hides(0, 4, 1, 0)", x.hides(0, 4, 1, 0), Check.BEYOND);
        C.due("hides(0, -1, 1, 0)", x.hides(0, -1, 1, 0), Check.BEYOND);
        C.due("hides(0, 0, 4, 0)", x.hides(0, 0, 4, 0), Check.BEYOND);
        C.due("hides(0, 0, -1, 0)", x.hides(0, 0, -1, 0), Check.BEYOND);
        C.due("hides(0, 0, 1, 21)", x.hides(0, 0, 1, 21), Check.BEYOND);
        C.due("hides(0, 0, 1, -1)", x.hides(0, 0, 1, -1), Check.BEYOND);
        x.scent(0, 1, 200);
        C.due("20 hours are as good, with 10 there", x.hides(0, 2, 1, 20), 1030);
    }

    private static void promise24Leave() {
        TubSteps x = Check.spa("duchess with 1; clerk; bather in 9");
        C.due("leave(1, 1): she or the clerk", x.leave(1, 1), 1);
        C.due("leave(1, 0)", x.leave(1, 0), 0);
        C.due("leave(0, 20): she cannot smell 32", x.leave(0, 20), 0);
        x.change(1, 3, 2);
        C.due("the clerk knows already", x.leave(1, 1), 0);
        TubSteps two = Check.spa("duchess with 1; duchess with 1; clerk; clerk; clerk");
        C.due("the two duchesses", two.leave(1, 1), 3);
        C.due("but they have not left", two.ahead(0, 1, 1), 256);
        C.due("nor have the clerks", two.ahead(0, 0, 1), 96);
        two.change(3, 1, 9);
        two.change(4, 1, 9);
        C.due("the one clerk who is near", two.leave(1, 1), 4);
        TubSteps warm = Check.spa("clerk; duchess with 1; clerk");
        C.due("she is 1", warm.leave(1, 5), 2);
        C.due("leave(4, 0)", x.leave(4, 0), Check.BEYOND);
        C.due("leave(-1, 0)", x.leave(-1, 0), Check.BEYOND);
        C.due("leave(0, 21)", x.leave(0, 21), Check.BEYOND);
        C.due("leave(0, -1)", x.leave(0, -1), Check.BEYOND);
        C.due("without bathers", new TubSteps().leave(0, 20), 0);
        TubSteps all = Check.spa("tub 0 0 of 1 9999; clerk in 1; clerk in 2; clerk in 3");
        C.due("all must leave", all.leave(1, 3), 7);
        TubSteps masks = Check.spa("duchess in 1 with 2; clerk in 1; tub 0 0 of 1 90");
        // 67 come down: the clerk with 32 of its own and her 128 would need 50 and 20
        C.due("who goes no longer hides", masks.leave(1, 1), 0);
        TubSteps behind = Check.spa("consul in 1 with 3; clerk in 1; sad in 1 with 2; tub 0 0 of 1 90");
        C.due("the scents of those who stay hide", behind.leave(1, 1), 0);
    }

    private static void promise25PlugFor() {
        TubSteps x = Check.spa("clerk in 4; clerk in 8; clerk in 9; tub 3 0 of 1 200; tub 7 0 of 1 200");
        C.due("plugFor(1, 1): either", x.plugFor(1, 1), 3);
        C.due("plugFor(1, 2): two are below 7", x.plugFor(1, 2), 7);
        C.due("plugFor(1, 0)", x.plugFor(1, 0), 0);
        C.due("plugFor(2, 40)", x.plugFor(2, 40), 0);
        x.change(0, 3, 2);
        C.due("plugFor(1, 1): one knows already", x.plugFor(1, 1), 7);
        TubSteps many = Check.spa("tub 3 0 of 1 2000");
        for (int i = 0; i < 8; i++) {
            many.bather(2, 4);
            many.change(i, 3, i == 5 ? 0 : 2);
        }
        C.due("seven know already", many.plugFor(1, 1), 3);
        many.change(5, 3, 2);
        C.due("all eight do", many.plugFor(1, 1), 0);
        C.due("plugFor(4, 0)", x.plugFor(4, 0), Check.BEYOND);
        C.due("plugFor(-1, 0)", x.plugFor(-1, 0), Check.BEYOND);
        C.due("plugFor(0, 41)", x.plugFor(0, 41), Check.BEYOND);
        C.due("plugFor(0, -1)", x.plugFor(0, -1), Check.BEYOND);
    }

    private static void promise26Fits() {
        TubSteps x = Check.spa("bather in 9; clerk in 8 with 1");
        C.due("no sheet", x.fits(4, 0), Check.BEYOND);
        C.due("no sheet", x.fits(-1, 0), Check.BEYOND);
        C.due("missing ahead of no bather", x.fits(0, 9), Check.MISSING);
        Check.fill(x, 0, 16, 0, 64, 64);
        C.due("64 an hour", x.fits(0, 0), 1);
        C.due("not of the clerk, while the bather adds it", x.fits(0, 1), 2 + 4 + 8);
        Check.fill(x, 1, 32, 0, 0, 0);
        C.due("none", x.fits(1, 0), 14);
        Check.fill(x, 1, 32, 1, 0, 0);
        C.due("now 1", x.fits(1, 0), 0);
        Check.fill(x, 1, 8, -1, 255, 256 + 64);
        C.due("any, any, 64 in 8 bits", x.fits(1, 0), 1);
        Check.fill(x, 1, 16, -1, -1, -2);
        C.due("-2 is nothing", x.fits(1, 0), 0);
        Check.fill(x, 1, 8);
        C.due("an empty sheet", x.fits(1, 0), 15);
        Check.fill(x, 1, 16, 0, 64, 88, 88);
        C.due("24 of the clerk's 32 two hours on", x.fits(1, 1), 1);
        C.due("no bather", x.fits(1, 2), Check.BEYOND);
        C.due("no bather", x.fits(1, -1), Check.BEYOND);
    }

    private static void promise27Kinds() {
        TubSteps x = Check.spa("bather in 9");
        C.due("no sheet", x.kinds(4, 0), Check.BEYOND);
        C.due("no sheet", x.kinds(-1, 0), Check.BEYOND);
        C.due("missing ahead of no bather", x.kinds(0, 9), Check.MISSING);
        Check.fill(x, 0, 16, 0, 64);
        C.due("64: a bather or a sad one", x.kinds(0, 0), 1 + 32);
        Check.fill(x, 0, 16, 0, 8);
        C.due("8: a spy or a lamplighter", x.kinds(0, 0), 8 + 16);
        Check.fill(x, 0, 16, 0, 128);
        C.due("128: a duchess or a cold consul", x.kinds(0, 0), 2 + 64);
        x.warm(8, 21);
        C.due("a consul would add 1", x.kinds(0, 0), 2);
        Check.fill(x, 0, 16, 0, 32);
        C.due("32: a clerk", x.kinds(0, 0), 4);
        Check.fill(x, 0, 16);
        C.due("an empty sheet", x.kinds(0, 0), 127);
        Check.fill(x, 0, 8, -1, -1);
        C.due("any", x.kinds(0, 0), 127);
        C.due("no bather", x.kinds(0, 1), Check.BEYOND);
        C.due("no bather", x.kinds(0, -1), Check.BEYOND);
    }

    private static void nothingChanges() {
        TubSteps x = Check.spa("clerk in 1; duchess in 0 with 1; tub 0 50 of 1 200; fresh 70");
        Check.fill(x, 0, 16, 0, -1, -1);
        x.swapFor(0, 9);
        x.seat(0, 2);
        x.kindFor(0, 9);
        x.freshFor(9, 9);
        x.hides(0, 2, 1, 9);
        x.leave(1, 9);
        x.plugFor(1, 9);
        x.fits(0, 0);
        x.kinds(0, 0);
        C.due("hour", x.now(0), 0);
        C.due("warmth", x.now(1), 50);
        C.due("scents", x.now(2), 200);
        C.due("kind", x.of(0, 0), 2);
        C.due("tub", x.of(0, 1), 1);
        C.due("scent", x.of(0, 2), 0);
        C.due("known", x.count(2), 0);
        C.due("fresh", x.fresh(0), 70);
        x.go(1);
        C.due("nobody has left", x.tub(0, 1), 128);
    }
}
