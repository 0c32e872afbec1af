/** Counts the answers of a test that are not as due; prints each of them. */
final class Expect {
    /** A call that may throw. */
    interface Call {
        Object answer();
    }

    static final String INDEX = "IndexOutOfBoundsException";
    static final String ARGUMENT = "IllegalArgumentException";
    static final String STATE = "IllegalStateException";

    private static final int MOST_PRINTED = 40;
    private static String sentence = "";
    private static int asked;
    private static int wrong;

    private Expect() {
    }

    /** Names the sentence of the document that the answers after it are due by. */
    static void by(String sentenceOfTheDocument) {
        sentence = "[" + sentenceOfTheDocument + "] ";
    }

    static void due(String call, Object want, Call got) {
        String answer = answerOf(got);
        asked++;
        if (!answer.equals(String.valueOf(want))) {
            wrong++;
            if (wrong <= MOST_PRINTED) {
                System.out.println(sentence + call + " answered " + answer + ", due is " + want);
            }
        }
    }

    static void dueThrow(String call, String exception, Call got) {
        due(call, "throws." + exception, got);
    }

    /** The answer as a text; of what is thrown the simple name of its very class. */
    static String answerOf(Call call) {
        try {
            return String.valueOf(call.answer());
        } catch (RuntimeException thrown) {
            return "throws." + thrown.getClass().getSimpleName();
        }
    }

    /** Ends the program, with exit code 1 if an answer was not as due or none was asked. */
    static void finish(String test) {
        System.out.println(test + ": " + asked + " answers, " + wrong + " not as due");
        System.exit(wrong == 0 && asked > 0 ? 0 : 1);
    }
}
