import java.util.Objects;

/** Compares answers with those that are due, and ends the program with 1 if one was wrong. */
final class Check {
    private int wrong = 0;
    private int looked = 0;

    void due(String what, Object want, Object got) {
        looked++;
        if (!Objects.equals(want, got)) {
            wrong++;
            System.out.println(what + " answered " + got + ", due is " + want);
        }
    }

    /** The call throws just this, and what can be seen of the desk is the same before and after. */
    void refused(TunnelDesk desk, String what, Class<? extends RuntimeException> want, Runnable call) {
        String before = Drive.sight(desk);
        due(what, want.getSimpleName(), thrownBy(call));
        due(what + " changes nothing", before, Drive.sight(desk));
    }

    void end(String name) {
        System.out.println(name + ": " + looked + " answers looked at, " + wrong + " wrong");
        if (wrong != 0) {
            System.exit(1);
        }
    }

    private static String thrownBy(Runnable call) {
        try {
            call.run();
            return "nothing";
        } catch (RuntimeException e) {
            return e.getClass().getSimpleName();
        }
    }
}
