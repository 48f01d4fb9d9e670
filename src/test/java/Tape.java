/** Brings texts onto THE TAPE. */
final class Tape {
    private Tape() {
    }

    /** Feeds signs 0 to 255, eight at a time: what the last feed answered. */
    static int feed(TruceLine x, String signs) {
        int answer = x.count(8);
        for (int i = 0; i < signs.length(); i += 8) {
            int n = Math.min(8, signs.length() - i);
            long bytes = 0;
            for (int k = 0; k < n; k++) bytes |= (long) signs.charAt(i + k) << 8 * k;
            answer = x.feed(n, bytes);
        }
        return answer;
    }

    static int text(TruceLine x, String signs) {
        feed(x, signs);
        return x.text();
    }
}
