/** Edges that the document names: each is tried on an object of its own. */
final class Edges {
    interface Calls {
        void on(TruceLine x);
    }

    interface Call {
        long on(TruceLine x);
    }

    static final int NONE = TruceLine.NONE, BAD = TruceLine.BAD, STATE = TruceLine.STATE, FULL = TruceLine.FULL;
    static final int NOTHING = -11, OUTSIDE = -12, UNLIKE = -13, BELOW = -14;
    static final long NO = TruceLine.NO;
    static final int LEAST = Integer.MIN_VALUE, GREATEST = Integer.MAX_VALUE;

    private final Due due = new Due();
    private String sentence = "";
    private Calls before = x -> { };

    /** The sentence whose edges follow; they start from a new object. */
    void of(String words) {
        of(words, x -> { });
    }

    /** The sentence whose edges follow, and the calls that each of their objects starts with. */
    void of(String words, Calls first) {
        sentence = words;
        before = first;
    }

    void is(String edge, long want, Call call) {
        due.is(sentence + " -- " + edge, call.on(ready()), want);
    }

    /** What a call answers behind others. */
    void is(String edge, long want, Calls first, Call call) {
        TruceLine x = ready();
        first.on(x);
        due.is(sentence + " -- " + edge, call.on(x), want);
    }

    /** A call that is refused: it also changes nothing. */
    void refused(String edge, long want, Call call) {
        TruceLine x = ready();
        due.is(sentence + " -- " + edge, call.on(x), want);
        due.same(sentence + " -- " + edge + ", what is told behind it", Told.of(x), Told.of(ready()));
    }

    void end() {
        due.end();
    }

    private TruceLine ready() {
        TruceLine x = new TruceLine();
        before.on(x);
        return x;
    }
}
