import java.lang.reflect.Member;
import java.lang.reflect.Modifier;
import java.util.Arrays;
import java.util.Set;
import java.util.TreeSet;

/** Promise 1 and the public face: the names, the signatures, the constants, a new object. */
public final class FaceTest {
    private static final String[] FACE = {
        "int addEdge(int,int,int,int)", "int setEdge(int,int,int)", "int removeEdge(int)",
        "int edges()", "int edge(int,int)", "int edgeBetween(int,int)", "int setHorizon(int)",
        "int observe(int,int)", "int forget(int)", "int observed(int)", "int setSensors(int)",
        "int simulate(int,int)", "int timeBy(int,int,int)", "long weight(int)", "int fits(int,int)",
        "long timeWeight(int,int,int)", "long reach(int)", "long likelihood(int)",
        "int candidates()", "int candidate(int)", "int belief(int)", "int decoy(int)",
        "int possible()", "int explanation(int)", "int values(int)", "int undo()", "int type(int)",
        "int clearText()", "int textFault()", "int load()", "long digest()"
    };

    public static void main(String[] args) throws Exception {
        Check check = new Check("FaceTest");
        methods(check);
        members(check);
        constants(check);
        newObject(check);
        check.end();
    }

    private static void methods(Check check) {
        Set<String> got = new TreeSet<>();
        Set<String> publicNames = new TreeSet<>();
        for (var m : RumourSource.class.getDeclaredMethods()) {
            if (Modifier.isPublic(m.getModifiers())) {
                String parameters = String.join(",",
                    Arrays.stream(m.getParameterTypes()).map(Class::getName).toList());
                got.add(m.getReturnType().getName() + " " + m.getName() + "(" + parameters + ")");
                publicNames.add(m.getName());
                check.holds(m + " is no static method", !Modifier.isStatic(m.getModifiers()));
            }
        }
        check.holds("the public methods are those of the face: " + got,
            got.equals(new TreeSet<>(Arrays.asList(FACE))));
        noneBearsAPublicName(check, RumourSource.class, publicNames);
        for (Class<?> inner : RumourSource.class.getDeclaredClasses()) {
            noneBearsAPublicName(check, inner, publicNames);
        }
    }

    private static void noneBearsAPublicName(Check check, Class<?> type, Set<String> names) {
        for (var m : type.getDeclaredMethods()) {
            boolean isPublic = type == RumourSource.class && Modifier.isPublic(m.getModifiers());
            check.holds(m + " bears no public name", isPublic || !names.contains(m.getName()));
        }
    }

    private static void members(Check check) {
        Set<String> constants = Set.of("NONE", "BAD_INDEX", "BAD_VALUE", "BAD_STATE", "FULL");
        for (var f : RumourSource.class.getDeclaredFields()) {
            if (constants.contains(f.getName())) {
                check.due("modifiers of " + f, f.getModifiers(),
                    Modifier.PUBLIC | Modifier.STATIC | Modifier.FINAL);
                check.holds(f + " is an int", f.getType() == int.class);
            } else {
                isPrivate(check, f);
            }
            boolean isStatic = Modifier.isStatic(f.getModifiers());
            check.holds(f + " is final, if it is static",
                !isStatic || Modifier.isFinal(f.getModifiers()));
        }
        for (var m : RumourSource.class.getDeclaredMethods()) {
            if (!Modifier.isPublic(m.getModifiers())) {
                isPrivate(check, m);
            }
        }
        for (Class<?> inner : RumourSource.class.getDeclaredClasses()) {
            int m = inner.getModifiers();
            check.holds(inner + " is static, and neither public nor protected",
                Modifier.isStatic(m) && !Modifier.isPublic(m) && !Modifier.isProtected(m));
        }
        check.due("modifiers of the class", RumourSource.class.getModifiers(),
            Modifier.PUBLIC | Modifier.FINAL);
        var constructors = RumourSource.class.getDeclaredConstructors();
        check.due("number of constructors", constructors.length, 1);
        check.due("modifiers of the constructor", constructors[0].getModifiers(), Modifier.PUBLIC);
        check.due("parameters of the constructor", constructors[0].getParameterCount(), 0);
    }

    private static void isPrivate(Check check, Member member) {
        check.holds(member + " is private", Modifier.isPrivate(member.getModifiers()));
    }

    private static void constants(Check check) {
        check.due("NONE", RumourSource.NONE, -1);
        check.due("BAD_INDEX", RumourSource.BAD_INDEX, -2);
        check.due("BAD_VALUE", RumourSource.BAD_VALUE, -3);
        check.due("BAD_STATE", RumourSource.BAD_STATE, -4);
        check.due("FULL", RumourSource.FULL, -5);
    }

    private static void newObject(Check check) {
        RumourSource x = new RumourSource();
        check.due("edges()", x.edges(), 0);
        for (int node = 0; node < 8; node++) {
            check.due("observed(" + node + ")", x.observed(node), 100);
        }
        check.due("undo()", x.undo(), -4);
        check.due("clearText()", x.clearText(), 0);
        check.due("textFault()", x.textFault(), 0);
        check.due("weight(0)", x.weight(0), 1);
        check.due("likelihood(255)", x.likelihood(255), 1);
        check.due("setHorizon(20)", x.setHorizon(20), 20);
        check.due("setSensors(255)", x.setSensors(255), 255);
        RumourSource y = new RumourSource();
        y.addEdge(0, 1, 1, 1);
        y.observe(3, 3);
        check.due("edges() of another object", x.edges(), 0);
        check.due("observed(3) of another object", x.observed(3), 100);
    }
}
