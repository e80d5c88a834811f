/** What several tests do with a hall. */
final class Hall {
    private Hall() {
    }

    /** Feeds a text, four letters a call; the answer is that of the last call. */
    static int feed(TriggerHall hall, String text) {
        int answer = 0;
        for (int from = 0; from < text.length(); from += 4) {
            answer = hall.feed(packed(text, from));
        }
        return answer;
    }

    static int packed(String text, int from) {
        int v = 0;
        for (int n = 0; n < 4 && from + n < text.length(); n++) {
            v |= text.charAt(from + n) << 8 * n;
        }
        return v;
    }

    static int keep(TriggerHall hall, String text, int share) {
        feed(hall, text);
        return hall.line(share, false);
    }

    static int bar(TriggerHall hall, String text, int share) {
        feed(hall, text);
        return hall.line(share, true);
    }

    /** What line() answers to a text, on a new hall. */
    static int answerTo(String text) {
        return keep(new TriggerHall(), text, 1);
    }

    static void hits(TriggerHall hall, int... byLayers) {
        for (int layer = 0; layer < byLayers.length; layer++) {
            hall.hits(layer, byLayers[layer]);
        }
    }

    static int fireWith(TriggerHall hall, int... byLayers) {
        hits(hall, byLayers);
        return hall.fire();
    }
}
