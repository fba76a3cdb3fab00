import java.util.ArrayList;
import java.util.List;

/** Promise 32: the digest. */
public final class DigestTest {
    public static void main(String[] args) {
        Check check = new Check("DigestTest");
        RumourSource x = new RumourSource();
        check.due("digest() of a new object", x.digest(), hash(x, 20, 255));
        check.due("digest() by hand", x.digest(), byHand());
        Check.type(x, "0>1*9+1; 1=1; 7>6*8+2; 5=-; 2>3*10+5; 4=30");
        x.load();
        check.due("digest()", x.digest(), hash(x, 20, 255));
        x.setHorizon(7);
        check.due("digest()", x.digest(), hash(x, 7, 255));
        x.setSensors(77);
        check.due("digest()", x.digest(), hash(x, 7, 77));
        long before = x.digest();
        x.clearText();
        check.due("digest() without the text", x.digest(), before);
        x.removeEdge(1);
        check.due("digest()", x.digest(), hash(x, 7, 77));
        x.simulate(1, 3);
        check.due("digest()", x.digest(), hash(x, 7, 77));
        check.end();
    }

    private static long byHand() {
        long h = 17;
        h = 31 * h;
        h = 31 * h + 20;
        for (int node = 0; node < 8; node++) {
            h = 31 * h + 100;
        }
        return 31 * h + 255;
    }

    private static long hash(RumourSource x, int horizon, int sensors) {
        List<Integer> numbers = new ArrayList<>();
        numbers.add(x.edges());
        for (int e = 0; e < x.edges(); e++) {
            for (int what = 0; what < 4; what++) {
                numbers.add(x.edge(e, what));
            }
        }
        numbers.add(horizon);
        for (int node = 0; node < 8; node++) {
            numbers.add(x.observed(node));
        }
        numbers.add(sensors);
        long h = 17;
        for (int v : numbers) {
            h = 31 * h + v;
        }
        return h;
    }
}
