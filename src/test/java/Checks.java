/** Prints every answer that is not due; a test that had one ends with exit code 1. */
final class Checks {
    private int made;
    private int wrong;

    void due(String call, long got, long want) {
        note(call, got == want, Long.toString(got), Long.toString(want));
    }

    void dueText(String call, String got, String want) {
        note(call, want.equals(got), got, want);
    }

    void dueTrue(String call, boolean got) {
        note(call, got, Boolean.toString(got), "true");
    }

    /** The call has to throw exactly this class, and to leave the object as it was. */
    void dueThrow(Scrubward x, String call, Class<? extends RuntimeException> want, Runnable run) {
        long before = x.digest();
        String thrown = "nothing";
        try {
            run.run();
        } catch (RuntimeException e) {
            thrown = e.getClass().getSimpleName();
        }
        note(call + " throws", thrown.equals(want.getSimpleName()), thrown, want.getSimpleName());
        note(call + " leaves the digest", before == x.digest(), "another", "the same");
    }

    void dueIndex(Scrubward x, String call, Runnable run) {
        dueThrow(x, call, IndexOutOfBoundsException.class, run);
    }

    void dueArgument(Scrubward x, String call, Runnable run) {
        dueThrow(x, call, IllegalArgumentException.class, run);
    }

    void dueState(Scrubward x, String call, Runnable run) {
        dueThrow(x, call, IllegalStateException.class, run);
    }

    void end() {
        System.out.println(made + " checks, " + wrong + " wrong");
        if (wrong != 0) {
            System.exit(1);
        }
    }

    private void note(String call, boolean isDue, String got, String want) {
        made++;
        if (!isDue) {
            wrong++;
            System.out.println(call + ": got " + got + ", due is " + want);
        }
    }
}
