/** Promises 14 to 18: times, weights and sums of weights by outcomes. */
public final class OutcomesTest {
    private static final int LOW = Integer.MIN_VALUE;
    private static final int HIGH = Integer.MAX_VALUE;

    public static void main(String[] args) {
        Check check = new Check("OutcomesTest");
        timeBy(check);
        weight(check);
        fits(check);
        timeWeight(check);
        reach(check);
        wrongStarts(check);
        check.end();
    }

    private static void timeBy(Check check) {
        RumourSource x = Check.loaded("0>1*5+5;0>2*5+1;2>1*5+1;1>3*5+2;3>0*5+1");
        check.due("timeBy(1, 1, 1)", x.timeBy(1, 1, 1), 5);
        check.due("timeBy(1, 7, 1), the shorter way", x.timeBy(1, 7, 1), 2);
        check.due("timeBy(1, 15, 3)", x.timeBy(1, 15, 3), 4);
        check.due("timeBy(1, 8, 3)", x.timeBy(1, 8, 3), -1);
        check.due("timeBy(1, 0, 0)", x.timeBy(1, 0, 0), 0);
        check.due("timeBy(8, 16, 0)", x.timeBy(8, 16, 0), 1);
        check.due("timeBy(9, 31, 0), in the start", x.timeBy(9, 31, 0), 0);
        check.due("timeBy(6, 15, 3), the nearer one", x.timeBy(6, 15, 3), 2);
        check.due("timeBy(255, 0, 7)", x.timeBy(255, 0, 7), 0);
        check.due("timeBy(1, 31, 7)", x.timeBy(1, 31, 7), -1);
        for (int bad : new int[] {-1, 8, LOW, HIGH}) {
            check.due("timeBy(1, 0, " + bad + ")", x.timeBy(1, 0, bad), -2);
            check.due("timeBy(0, 32, " + bad + ")", x.timeBy(0, 32, bad), -2);
        }
        for (int bad : new int[] {-1, 32, LOW, HIGH}) {
            check.due("timeBy(1, " + bad + ", 0)", x.timeBy(1, bad, 0), -3);
        }
        for (int bad : new int[] {0, -1, 256, LOW, HIGH}) {
            check.due("timeBy(" + bad + ", 0, 0)", x.timeBy(bad, 0, 0), -3);
        }
        // edges in the order that is worst for a search that goes over them in turn
        RumourSource y = Check.loaded("6>7*5+4;5>6*5+4;4>5*5+4;3>4*5+4;2>3*5+4;1>2*5+4;0>1*5+4");
        y.setHorizon(28);
        check.due("timeBy(1, 127, 7)", y.timeBy(1, 127, 7), 28);
        y.setHorizon(27);
        check.due("timeBy(1, 127, 7)", y.timeBy(1, 127, 7), -1);
    }

    private static void weight(Check check) {
        RumourSource x = new RumourSource();
        check.due("weight(0)", x.weight(0), 1);
        check.due("weight(1)", x.weight(1), -3);
        Check.type(x, "0>1*3+1;1>2*10+1;2>3*0+1;3>4*6+1");
        x.load();
        check.due("weight(2)", x.weight(2), 7 * 10 * 10 * 4);
        check.due("weight(11)", x.weight(11), 3 * 10 * 10 * 6);
        check.due("weight(0)", x.weight(0), 0);
        check.due("weight(15)", x.weight(15), 0);
        long sum = 0;
        for (int outcome = 0; outcome < 16; outcome++) {
            sum += x.weight(outcome);
        }
        check.due("the sum of all weights", sum, 10_000);
        for (int bad : new int[] {-1, 16, LOW, HIGH}) {
            check.due("weight(" + bad + ")", x.weight(bad), -3);
        }
        RumourSource y = Check.loaded("0>1*10+1;1>2*10+1;2>3*10+1;3>4*10+1;4>5*10+1;5>6*10+1;"
            + "6>7*10+1;7>0*10+1;1>0*10+1;2>1*10+1;3>2*10+1;4>3*10+1");
        check.due("weight(4095)", y.weight(4095), 1_000_000_000_000L);
        check.due("weight(4096)", y.weight(4096), -3);
    }

    private static void fits(Check check) {
        RumourSource x = Check.loaded("0>1*0+2;1>2*5+3");
        check.due("fits(1, 0), nothing observed", x.fits(1, 0), 1);
        x.observe(2, 5);
        check.due("fits(1, 3), of the weight 0", x.fits(1, 3), 1);
        check.due("fits(1, 1)", x.fits(1, 1), 0);
        check.due("fits(2, 3)", x.fits(2, 3), 0);
        x.observe(2, -1);
        check.due("fits(1, 1)", x.fits(1, 1), 1);
        check.due("fits(1, 3)", x.fits(1, 3), 0);
        check.due("fits(4, 0)", x.fits(4, 0), 0);
        x.setHorizon(4);
        check.due("fits(1, 3), too late", x.fits(1, 3), 1);
        x.observe(2, 5);
        check.due("fits(1, 3), a time behind the horizon", x.fits(1, 3), 0);
        check.due("fits(1, 4)", x.fits(1, 4), -3);
        check.due("fits(1, -1)", x.fits(1, -1), -3);
        check.due("fits(0, 0)", x.fits(0, 0), -3);
        check.due("fits(256, 0)", x.fits(256, 0), -3);
    }

    private static void timeWeight(Check check) {
        RumourSource x = Check.loaded("0>1*5+5;0>2*8+1;2>1*4+1;1>3*10+2;3=7;1=-");
        check.due("timeWeight(1, 1, 2)", x.timeWeight(1, 1, 2), 3200);
        check.due("timeWeight(1, 1, 5)", x.timeWeight(1, 1, 5), 3400);
        check.due("timeWeight(1, 1, -1)", x.timeWeight(1, 1, -1), 3400);
        check.due("timeWeight(1, 1, 0)", x.timeWeight(1, 1, 0), 0);
        check.due("timeWeight(1, 3, 7)", x.timeWeight(1, 3, 7), 3400);
        check.due("timeWeight(1, 0, 0)", x.timeWeight(1, 0, 0), 10_000);
        check.due("timeWeight(1, 0, -1)", x.timeWeight(1, 0, -1), 0);
        check.due("timeWeight(3, 1, 0)", x.timeWeight(3, 1, 0), 10_000);
        check.due("timeWeight(1, 7, -1)", x.timeWeight(1, 7, -1), 10_000);
        check.due("timeWeight(1, 7, 30)", x.timeWeight(1, 7, 30), 0);
        x.setHorizon(6);
        check.due("timeWeight(1, 3, 7)", x.timeWeight(1, 3, 7), 0);
        check.due("timeWeight(1, 3, -1)", x.timeWeight(1, 3, -1), 6800);
        for (int bad : new int[] {-1, 8, LOW, HIGH}) {
            check.due("timeWeight(1, " + bad + ", 0)", x.timeWeight(1, bad, 0), -2);
            check.due("timeWeight(0, " + bad + ", 99)", x.timeWeight(0, bad, 99), -2);
        }
        for (int bad : new int[] {-2, 31, LOW, HIGH}) {
            check.due("timeWeight(1, 0, " + bad + ")", x.timeWeight(1, 0, bad), -3);
        }
        check.due("timeWeight(0, 0, 0)", x.timeWeight(0, 0, 0), -3);
    }

    private static void reach(Check check) {
        RumourSource x = Check.loaded("0>1*5+5;1>2*4+1;7=-;0=3");
        check.due("reach(1)", x.reach(1), 100 + 50 + 20);
        check.due("reach(2)", x.reach(2), 100 + 40);
        check.due("reach(128)", x.reach(128), 100);
        check.due("reach(5)", x.reach(5), 250);
        check.due("reach(255)", x.reach(255), 800);
        x.setHorizon(5);
        check.due("reach(1), by the horizon", x.reach(1), 150);
        RumourSource y = Check.loaded("0>1*10+1;1>2*10+1;2>3*10+1;3>4*10+1;4>5*10+1;5>6*10+1;"
            + "6>7*10+1;7>0*10+1;1>0*10+1;2>1*10+1;3>2*10+1;4>3*10+1");
        check.due("reach(1), the greatest", y.reach(1), 8_000_000_000_000L);
    }

    private static void wrongStarts(Check check) {
        RumourSource x = new RumourSource();
        for (int bad : new int[] {0, -1, 256, LOW, HIGH}) {
            check.due("fits(" + bad + ", 0)", x.fits(bad, 0), -3);
            check.due("timeWeight(" + bad + ", 0, 0)", x.timeWeight(bad, 0, 0), -3);
            check.due("reach(" + bad + ")", x.reach(bad), -3);
            check.due("likelihood(" + bad + ")", x.likelihood(bad), -3);
            check.due("explanation(" + bad + ")", x.explanation(bad), -3);
        }
        check.due("undo(): none of these is recorded", x.undo(), -4);
    }
}
