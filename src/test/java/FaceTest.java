import java.io.IOException;
import java.lang.reflect.Constructor;
import java.lang.reflect.Executable;
import java.lang.reflect.Field;
import java.lang.reflect.Method;
import java.lang.reflect.Modifier;
import java.util.ArrayList;
import java.util.HashSet;
import java.util.List;
import java.util.Set;

/** The public face is the document's, throws clauses and all, and nothing else can be seen. */
public final class FaceTest {
    private static final Check CHECK = new Check("FaceTest");

    private static final String[] FACE = {
        "int setArms(int) IllegalArgumentException",
        "int arms()",
        "int setInflow(int,int) IndexOutOfBoundsException,IllegalArgumentException",
        "int setOutflow(int,int) IndexOutOfBoundsException,IllegalArgumentException",
        "int setWeight(int,int,int) IndexOutOfBoundsException,IllegalArgumentException",
        "int scale(int) IllegalArgumentException,IllegalStateException",
        "int imbalance()",
        "boolean isPossible()",
        "int crowdedSet()",
        "int excess(int) IllegalArgumentException",
        "int iterate(int) IllegalArgumentException",
        "int fit(int,int) IllegalArgumentException",
        "int reset()",
        "int rounds()",
        "double estimate(int,int) IndexOutOfBoundsException",
        "double sum(int,boolean) IndexOutOfBoundsException",
        "double misfit()",
        "double share(int,int) IndexOutOfBoundsException",
        "double crossRatio(int,int,int,int) IndexOutOfBoundsException,ArithmeticException",
        "int busiestTurn()",
        "int rounded(int,int) IndexOutOfBoundsException",
        "int roundedMisfit()",
        "int possible(int,int) IndexOutOfBoundsException",
        "long digest()",
    };

    public static void main(String[] args) throws IOException {
        Class<?> face = TurnEstimator.class;
        CHECK.same("modifiers of the class", Modifier.toString(face.getModifiers()), "public final");
        CHECK.same("NONE", TurnEstimator.NONE, -1);
        methods(face);
        constructors(face);
        fields(face);
        if (Document.isHere("FaceTest")) {
            asTheDocumentWritesIt();
        }
        CHECK.end();
    }

    private static void methods(Class<?> face) {
        Set<String> due = new HashSet<>(List.of(FACE));
        Set<String> publicNames = new HashSet<>();
        List<String> privateNames = new ArrayList<>();
        for (Method m : face.getDeclaredMethods()) {
            if (Modifier.isPrivate(m.getModifiers())) {
                privateNames.add(m.getName());
                continue;
            }
            publicNames.add(m.getName());
            CHECK.same("modifiers of " + m.getName(), Modifier.toString(m.getModifiers()), "public");
            CHECK.same("the face has " + written(m), due.remove(written(m)), true);
        }
        CHECK.same("methods that are missing", due.toString(), "[]");
        for (String name : privateNames) {
            CHECK.same("a private method bears the public name " + name, publicNames.contains(name), false);
        }
    }

    private static void constructors(Class<?> face) {
        Constructor<?>[] all = face.getDeclaredConstructors();
        CHECK.same("constructors", all.length, 1);
        CHECK.same("parameters of the constructor", all[0].getParameterCount(), 0);
        CHECK.same("modifiers of the constructor", Modifier.toString(all[0].getModifiers()), "public");
    }

    private static void fields(Class<?> face) {
        int objectFields = 0;
        for (Field f : face.getDeclaredFields()) {
            String modifiers = Modifier.toString(f.getModifiers());
            if (f.getName().equals("NONE")) {
                CHECK.same("modifiers of NONE", modifiers, "public static final");
                continue;
            }
            CHECK.same(f.getName() + " is private", Modifier.isPrivate(f.getModifiers()), true);
            if (Modifier.isStatic(f.getModifiers())) {
                CHECK.same(f.getName() + " is final", Modifier.isFinal(f.getModifiers()), true);
            } else {
                objectFields++;
            }
        }
        CHECK.same("at most 20 fields", objectFields <= 20, true);
    }

    private static String written(Method m) {
        String line = m.getReturnType().getSimpleName() + " " + m.getName() + "(" + names(m.getParameterTypes()) + ")";
        String thrown = names(((Executable) m).getExceptionTypes());
        return thrown.isEmpty() ? line : line + " " + thrown;
    }

    private static String names(Class<?>[] types) {
        StringBuilder text = new StringBuilder();
        for (Class<?> type : types) {
            text.append(text.length() == 0 ? "" : ",").append(type.getSimpleName());
        }
        return text.toString();
    }

    /** Every line of the document's face, and the signature of every promise, is looked for in the class. */
    private static void asTheDocumentWritesIt() throws IOException {
        String section = Document.section("## The public face");
        CHECK.same("the class", section.contains("public final class TurnEstimator {"), true);
        Set<String> known = new HashSet<>(List.of(FACE));
        known.add("static final int NONE = -1");
        known.add("TurnEstimator()");
        String braces = section.substring(section.indexOf('{') + 1, section.lastIndexOf('}'));
        for (String line : braces.strip().split("\n")) {
            String signature = line.strip().replaceAll("^public |;$", "");
            CHECK.same("the document's line " + signature + " is looked for", known.remove(withoutNames(signature)), true);
        }
        CHECK.same("what the document does not have", known.toString(), "[]");
        for (int promise = 2; promise < FACE.length + 2; promise++) {
            String said = Document.section("## Promise " + promise + ":");
            String signature = said.substring(said.indexOf('`') + 1, said.indexOf('`', said.indexOf('`') + 1));
            CHECK.same("the signature of promise " + promise, withoutNames(signature), FACE[promise - 2]);
        }
    }

    private static String withoutNames(String signature) {
        String types = signature.replaceAll("(int|boolean) \\w+(, |\\))", "$1$2");
        return types.replace(", ", ",").replace(" throws ", " ");
    }
}
