import java.lang.reflect.Method;
import java.util.ArrayList;
import java.util.List;
import java.util.Set;
import java.util.TreeSet;

/** Each sentence of the document that can be tested has a test, and each test quotes what the document says. */
final class SentenceTests {
    static void testEverySentenceHasATest() {
        for (int promise = Document.TERMS; promise <= Document.PROMISES; promise++) {
            Set<String> quoted = quotedOf(promise);
            for (String sentence : Document.sentencesOf(promise)) {
                Check.isTrue("a test for promise " + promise + ": " + sentence,
                        quoted.contains(sentence) || !Document.canBeTested(sentence));
            }
        }
    }

    static void testEveryQuotationStandsInTheDocument() {
        for (int promise = Document.TERMS; promise <= Document.PROMISES; promise++) {
            Set<String> sentences = Document.sentencesOf(promise);
            for (String quotation : quotedOf(promise)) {
                Check.isTrue("in the document: " + quotation, sentences.contains(quotation));
            }
        }
    }

    /** A range or an exception is the edge of a call: its sentence has a test for itself. */
    static void testEveryEdgeHasATestOfItsOwn() {
        for (int promise = Document.TERMS; promise <= Document.PROMISES; promise++) {
            for (Method test : testsOf(promise)) {
                String[] sentences = test.getAnnotation(Sentence.class).value();
                for (String sentence : sentences) {
                    boolean isEdge = sentence.startsWith("Throws ") || sentence.startsWith("- ");
                    Check.isTrue(test.getName() + " is for one sentence alone", !isEdge || sentences.length == 1);
                }
            }
        }
    }

    private static Set<String> quotedOf(int promise) {
        Set<String> quoted = new TreeSet<>();
        for (Method test : testsOf(promise)) {
            quoted.addAll(List.of(test.getAnnotation(Sentence.class).value()));
        }
        return quoted;
    }

    private static List<Method> testsOf(int promise) {
        String beginning = promise == Document.TERMS ? "terms" : String.format("promise%02d", promise);
        List<Method> tests = new ArrayList<>();
        for (Method test : AllTests.tests()) {
            if (test.isAnnotationPresent(Sentence.class) && test.getName().startsWith(beginning)) {
                tests.add(test);
            }
        }
        return tests;
    }
}
