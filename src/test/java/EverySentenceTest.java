import java.util.List;

/** Each sentence of the document, from its first line to its last promise, is quoted by a test. */
public final class EverySentenceTest {
    private EverySentenceTest() {
    }

    public static void main(String[] arguments) {
        DescriptionTest.all();
        MethodsTest.all();
        BoundaryPlaceTest.all();
        BoundaryHourTest.all();
        BoundaryTextTest.all();
        BoundaryChangeTest.all();
        List<String> places = Sentence.places();
        Check.due("the first page, 19 paragraphs and 40 promises", places.size(), 60);
        for (String place : places) {
            Check.due("without a test in " + place, Sentence.withoutTest(place), "");
        }
        Check.end("EverySentenceTest");
    }
}
