import java.io.IOException;
import java.lang.reflect.InvocationTargetException;
import java.lang.reflect.Method;
import java.util.ArrayList;
import java.util.Arrays;
import java.util.Comparator;
import java.util.List;

/**
 * Runs the boundary cases of every promise. A case is a method promiseNN.. that names the sentences
 * it holds the class to; each sentence of the document's promises and description must be named by a
 * case of that promise, and each one that a case names must stand in the document.
 */
public final class BoundaryTest {
    private static final Check CHECK = new Check("BoundaryTest");
    private static final int PROMISES = 25;
    private static final Class<?>[] CASES = {
        CountsBoundaries.class, PossibleBoundaries.class, EstimateBoundaries.class, RoundingBoundaries.class,
    };

    public static void main(String[] args) throws IOException, IllegalAccessException {
        List<Method> cases = cases();
        for (Method method : cases) {
            run(method);
        }
        CHECK.begin("the document");
        if (Document.isHere("BoundaryTest")) {
            sentences(cases);
        }
        CHECK.end();
    }

    private static List<Method> cases() {
        List<Method> cases = new ArrayList<>();
        for (Class<?> holder : CASES) {
            for (Method method : holder.getDeclaredMethods()) {
                if (method.getName().startsWith("promise")) {
                    cases.add(method);
                }
            }
        }
        cases.sort(Comparator.comparing(Method::getName));
        return cases;
    }

    private static void run(Method method) throws IllegalAccessException {
        CHECK.begin(method.getName());
        int before = CHECK.looked();
        try {
            method.invoke(null, CHECK);
        } catch (InvocationTargetException e) {
            CHECK.same("the case", "threw " + e.getCause(), "ended");
        }
        CHECK.same("something was looked at", CHECK.looked() > before, true);
        CHECK.same("it names sentences", method.isAnnotationPresent(Says.class), true);
    }

    private static int promiseOf(Method method) {
        return Integer.parseInt(method.getName().substring("promise".length(), "promise".length() + 2));
    }

    private static void sentences(List<Method> cases) throws IOException {
        String description = Document.section("## Description");
        String whatItIs = Document.section("## What it is");
        for (int promise = 1; promise <= PROMISES; promise++) {
            String said = Document.section("## Promise " + promise + ":");
            List<String> named = named(cases, promise);
            for (String sentence : named) {
                boolean stands = said.contains(sentence) || description.contains(sentence) || whatItIs.contains(sentence);
                CHECK.same("promise " + promise + " says: " + sentence, stands, true);
            }
            allNamed("promise " + promise, said, named);
        }
        String explained = description.substring(0, description.indexOf("Examples:"));
        allNamed("the description", explained, named(cases, 0));
    }

    /** The sentences that the cases of one promise name, or those of all promises for 0. */
    private static List<String> named(List<Method> cases, int promise) {
        List<String> named = new ArrayList<>();
        for (Method method : cases) {
            Says says = method.getAnnotation(Says.class);
            if (says != null && (promise == 0 || promiseOf(method) == promise)) {
                named.addAll(Arrays.asList(says.value()));
            }
        }
        named.sort(Comparator.comparing(String::length).reversed());
        return named;
    }

    /** Strikes out what is named; headings of paragraphs, signatures and parameters' names may stay. */
    private static void allNamed(String what, String said, List<String> named) {
        CHECK.same(what + " stands in the document", said.isBlank(), false);
        for (String line : said.split("\n")) {
            String rest = line;
            for (String sentence : named) {
                rest = rest.replace(sentence, "");
            }
            boolean free = line.startsWith("`") || line.startsWith("----")
                || rest.matches("(- `\\w+`:|Junctions\\.|Possible counts\\.|The estimate\\.|Rounding\\.|Exceptions\\.)?\\s*");
            CHECK.same(what + ", no case names \"" + rest.trim() + "\"", free, true);
        }
    }
}
