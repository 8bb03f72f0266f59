import java.util.Objects;

/** Compares answers with those that are due, and ends the program with 1 if one was wrong. */
final class Check {
    private int wrong = 0;
    private int looked = 0;
    private int sentences = 0;
    private String sentence = "";

    void due(String what, Object want, Object got) {
        looked++;
        if (!Objects.equals(want, got)) {
            tellWrong(what + " answered " + got + ", due is " + want);
        }
    }

    /** The call throws just this, and what can be seen of the desk is the same before and after. */
    void refused(TunnelDesk desk, String what, Class<? extends RuntimeException> want, Runnable call) {
        String before = Drive.sight(desk);
        due(what, want.getSimpleName(), thrownBy(call));
        due(what + " changes nothing", before, Drive.sight(desk));
    }

    /** A test of its own for one sentence of the document; what it throws does not keep the others from running. */
    void sentence(String words, Runnable test) {
        sentence = words;
        sentences++;
        int before = looked;
        try {
            test.run();
        } catch (RuntimeException | AssertionError e) {
            tellWrong("the test was left by " + e);
        }
        if (looked == before) {
            tellWrong("the test looked at no answer");
        }
        sentence = "";
    }

    void end(String name) {
        String tests = sentences == 0 ? "" : sentences + " sentences, ";
        System.out.println(name + ": " + tests + looked + " answers looked at, " + wrong + " wrong");
        if (wrong != 0) {
            System.exit(1);
        }
    }

    private void tellWrong(String what) {
        wrong++;
        System.out.println(sentence.isEmpty() ? what : "\"" + sentence + "\": " + what);
    }

    private static String thrownBy(Runnable call) {
        try {
            call.run();
            return "nothing";
        } catch (RuntimeException e) {
            return e.getClass().getSimpleName();
        }
    }
}
