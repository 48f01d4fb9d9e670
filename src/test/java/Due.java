/** Counts the answers of one test program and tells those that are not as due. */
final class Due {
    private int asked;
    private int wrong;

    void is(String call, long got, long want) {
        asked++;
        if (got == want) return;
        wrong++;
        System.out.println(call + " answered " + got + ", due is " + want);
    }

    void same(String what, String got, String want) {
        asked++;
        if (got.equals(want)) return;
        wrong++;
        System.out.println(what + ":\n  is  " + got + "\n  due " + want);
    }

    boolean isWrong() {
        return wrong > 0;
    }

    /** Ends the program: with exit code 1, if an answer was wrong. */
    void end() {
        System.out.println(asked + " answers, " + wrong + " wrong");
        System.exit(wrong == 0 && asked > 0 ? 0 : 1);
    }
}
