/** Thrown texts, right ones and spoilt ones. */
final class Texts {
    private static final String LETTERS = "thwlr0129!()&|x \u00ff";

    private Texts() {
    }

    static String right(Dice dice) {
        for (int tries = 0; tries < 100; tries++) {
            String text = any(dice, 3);
            if (text.length() <= 60) return text;
        }
        return "h1";
    }

    static String spoilt(Dice dice) {
        StringBuilder text = new StringBuilder(dice.oneIn(3) ? opens(dice) : right(dice));
        for (int n = dice.below(3); n >= 0 && text.length() > 0; n--) {
            int place = dice.below(text.length());
            char letter = LETTERS.charAt(dice.below(LETTERS.length()));
            switch (dice.below(4)) {
                case 0 -> text.deleteCharAt(place);
                case 1 -> text.setLength(place);
                case 2 -> text.setCharAt(place, letter);
                default -> text.insert(place, letter);
            }
        }
        return text.toString();
    }

    /** Near the limit of what may stand open at once. */
    private static String opens(Dice dice) {
        StringBuilder text = new StringBuilder();
        int closes = 0;
        for (int n = 17 + dice.below(5); n > 0; n--) {
            boolean round = dice.oneIn(2);
            closes += round ? 1 : 0;
            text.append(round ? '(' : '!');
            if (round && dice.oneIn(12)) text.append("!h1|");
        }
        return text.append(ask(dice)).append(")".repeat(closes)).toString();
    }

    private static String any(Dice dice, int depth) {
        String text = both(dice, depth);
        return dice.oneIn(3) ? text + "|" + any(dice, depth - 1) : text;
    }

    private static String both(Dice dice, int depth) {
        String text = one(dice, depth);
        return dice.oneIn(3) ? text + "&" + both(dice, depth - 1) : text;
    }

    private static String one(Dice dice, int depth) {
        if (depth > 0 && dice.oneIn(4)) return "!" + one(dice, depth - 1);
        if (depth > 0 && dice.oneIn(4)) return "(" + any(dice, depth - 1) + ")";
        return ask(dice);
    }

    private static String ask(Dice dice) {
        String zeros = dice.oneIn(10) ? "0" : "";
        return switch (dice.below(5)) {
            case 0 -> "t" + zeros + dice.below(5);
            case 1 -> "h" + zeros + dice.below(40);
            case 2 -> "w" + (dice.oneIn(4) ? 1 + dice.below(999) : 100 * dice.below(10));
            case 3 -> "l" + zeros + dice.below(7);
            default -> "r" + (dice.oneIn(8) ? dice.below(1000) : dice.below(13));
        };
    }
}
