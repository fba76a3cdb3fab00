/** Promises 9 to 13: observations, sensors, the simulation. */
public final class ObservationsTest {
    private static final int LOW = Integer.MIN_VALUE;
    private static final int HIGH = Integer.MAX_VALUE;

    public static void main(String[] args) {
        Check check = new Check("ObservationsTest");
        observe(check);
        forget(check);
        setSensors(check);
        simulate(check);
        simulateDraws(check);
        check.end();
    }

    private static void observe(Check check) {
        RumourSource x = new RumourSource();
        check.due("observe(0, 0)", x.observe(0, 0), 100);
        check.due("observe(0, 30)", x.observe(0, 30), 0);
        check.due("observe(0, -1)", x.observe(0, -1), 30);
        check.due("observe(0, -1), which NONE answers", x.observe(0, -1), -1);
        check.due("observe(0, 5), which NONE answers", x.observe(0, 5), -1);
        check.due("undo(): that was recorded", x.undo(), 4);
        check.due("observed(0)", x.observed(0), -1);
        check.due("observe(7, 7)", x.observe(7, 7), 100);
        check.due("observed(7)", x.observed(7), 7);
        check.due("observed(6)", x.observed(6), 100);
        for (int bad : new int[] {-1, 8, LOW, HIGH}) {
            check.due("observe(" + bad + ", 1)", x.observe(bad, 1), -2);
            check.due("observe(" + bad + ", 31)", x.observe(bad, 31), -2);
            check.due("observed(" + bad + ")", x.observed(bad), -2);
        }
        for (int bad : new int[] {-2, 31, 100, LOW, HIGH}) {
            check.due("observe(7, " + bad + ")", x.observe(7, bad), -3);
        }
        check.due("observed(7) after errors", x.observed(7), 7);
    }

    private static void forget(Check check) {
        RumourSource x = Check.loaded("1=-;2=9");
        check.due("forget(1)", x.forget(1), -1);
        check.due("forget(2)", x.forget(2), 9);
        check.due("forget(2) again", x.forget(2), 100);
        check.due("observed(1)", x.observed(1), 100);
        check.due("observed(2)", x.observed(2), 100);
        check.due("undo()", x.undo(), 3);
        check.due("undo()", x.undo(), 2);
        check.due("observed(2)", x.observed(2), 9);
        for (int bad : new int[] {-1, 8, LOW, HIGH}) {
            check.due("forget(" + bad + ")", x.forget(bad), -2);
        }
    }

    private static void setSensors(Check check) {
        RumourSource x = new RumourSource();
        check.due("setSensors(0)", x.setSensors(0), 255);
        check.due("setSensors(255)", x.setSensors(255), 0);
        check.due("setSensors(129)", x.setSensors(129), 255);
        for (int bad : new int[] {-1, 256, LOW, HIGH}) {
            check.due("setSensors(" + bad + ")", x.setSensors(bad), -3);
        }
        check.due("simulate(1, 0)", x.simulate(1, 0), 1);
        int[] seen = {0, 100, 100, 100, 100, 100, 100, -1};
        for (int node = 0; node < 8; node++) {
            check.due("observed(" + node + ")", x.observed(node), seen[node]);
        }
    }

    private static void simulate(Check check) {
        RumourSource x = Check.loaded("0>1*10+2;1>2*10+3;2>3*0+1;4=4;5=-");
        for (int bad : new int[] {0, -1, 256, LOW, HIGH}) {
            check.due("simulate(" + bad + ", 1)", x.simulate(bad, 1), -3);
        }
        check.due("observed(4) after errors", x.observed(4), 4);
        check.due("setSensors(30)", x.setSensors(30), 255);
        check.due("simulate(1, -1)", x.simulate(1, -1), 3);
        int[] seen = {100, 2, 5, -1, -1, 100, 100, 100};
        for (int node = 0; node < 8; node++) {
            check.due("observed(" + node + ")", x.observed(node), seen[node]);
        }
        check.due("simulate(255, 7)", x.simulate(255, 7), 8);
        check.due("observed(3)", x.observed(3), 0);
        check.due("setSensors(0)", x.setSensors(0), 30);
        check.due("simulate(2, 7)", x.simulate(2, 7), 2);
        check.due("observed(3)", x.observed(3), 100);
        check.due("undo()", x.undo(), 4);
        check.due("observed(3)", x.observed(3), 0);
    }

    /** The draws by hand, over many x: also those by which the int arithmetic overflows. */
    private static void simulateDraws(Check check) {
        RumourSource x = Check.loaded("0>1*5+1;0>2*1+2;0>3*9+3;0>4*3+4;0>5*7+5;0>6*6+1");
        int[] trust = {5, 1, 9, 3, 7, 6};
        int[] delay = {1, 2, 3, 4, 5, 1};
        int[] starts = {0, 1, -1, 2, HIGH, LOW, 12345, -987654321, 42, 1 << 20};
        for (int start : starts) {
            long drawn = start;
            int heard = 1;
            int[] seen = {0, -1, -1, -1, -1, -1, -1, -1};
            for (int e = 0; e < 6; e++) {
                drawn = (drawn * 1103515245L + 12345L) & 0xFFFFFFFFL;
                if ((drawn >> 8) % 10 < trust[e]) {
                    heard++;
                    seen[e + 1] = delay[e];
                }
                drawn = (int) drawn;
            }
            check.due("simulate(1, " + start + ")", x.simulate(1, start), heard);
            for (int node = 0; node < 8; node++) {
                check.due("observed(" + node + ") by " + start, x.observed(node), seen[node]);
            }
        }
    }
}
