/** Counts the answers that are not the ones due, and tells them. */
final class Check {
    interface Call {
        int answer();
    }

    static final Class<?> ARGUMENT = IllegalArgumentException.class;
    static final Class<?> STATE = IllegalStateException.class;
    static final Class<?> INDEX = IndexOutOfBoundsException.class;
    static final Class<?> ELEMENT = java.util.NoSuchElementException.class;

    private String sentence = "";
    private int made;
    private int wrong;

    /** What a call answers, or the name of the exception that it throws. */
    static String outcome(Call call) {
        try {
            return String.valueOf(call.answer());
        } catch (RuntimeException e) {
            return e.getClass().getName();
        }
    }

    /** Runs the test of one sentence of the document, so that what is wrong is told with the sentence. */
    void sentence(String words, Runnable test) {
        sentence = "\"" + words + "\" ";
        int before = made;
        try {
            test.run();
        } catch (RuntimeException e) {
            same("an end", "the test", e.toString());
        }
        holds("the test has checks", made > before);
        sentence = "";
    }

    void answers(int due, String what, Call call) {
        same(String.valueOf(due), what, outcome(call));
    }

    void fails(Class<?> due, String what, Call call) {
        same(due.getName(), what, outcome(call));
    }

    void same(String due, String what, String got) {
        made++;
        if (!due.equals(got)) {
            wrong++;
            System.out.println(sentence + what + ": got " + got + ", due is " + due);
        }
    }

    void holds(String what, boolean isSo) {
        same("true", what, String.valueOf(isSo));
    }

    void finish() {
        System.out.println(made + " checks, " + wrong + " wrong");
        if (wrong != 0 || made == 0) {
            System.exit(1);
        }
    }
}
