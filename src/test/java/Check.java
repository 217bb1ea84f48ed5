import java.util.List;

/** Counts and prints the calls whose answer is not the one that is due. */
final class Check {
    interface Call {
        void run();
    }

    private int checked = 0;
    private int wrong = 0;

    void same(String call, Object got, Object due) {
        checked++;
        if (!String.valueOf(got).equals(String.valueOf(due))) {
            wrong++;
            System.out.println(call + " answered " + got + ", due is " + due);
        }
    }

    /** The same for answers one below the other: prints those that differ. */
    void sameLines(String call, List<String> got, List<String> due) {
        same(call + ", number of answers", got.size(), due.size());
        for (int i = 0; i < Math.min(got.size(), due.size()); i++) {
            same(call, got.get(i), due.get(i));
        }
    }

    void thrown(String call, Class<? extends RuntimeException> due, Call made) {
        String got = "nothing";
        try {
            made.run();
        } catch (RuntimeException e) {
            got = e.getClass().getName();
        }
        same(call + " throws", got, due.getName());
    }

    void finish() {
        System.out.println(checked + " answers looked at, " + wrong + " not as due");
        if (wrong != 0 || checked == 0) {
            System.exit(1);
        }
    }
}
