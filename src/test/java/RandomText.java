/** Makes texts that tell pipes, most of them without a fault, with small numbers so that stops are tight. */
final class RandomText {
    private final Dice dice;
    private int hubs;
    private int points;
    private int shippers;
    private int in;
    private int out;

    RandomText(Dice dice) {
        this.dice = dice;
    }

    String make() {
        StringBuilder text = new StringBuilder();
        hubs = dice.from(2, 8);
        points = 0;
        shippers = 0;
        text.append("hubs ").append(hubs);
        // points and shippers ahead of what refers to them, the rest as it comes
        int ahead = dice.from(3, 12);
        for (int i = 0; i < ahead && text.length() < 330; i++) {
            text.append(gap()).append(';').append(gap()).append(aheadPart());
        }
        int behind = dice.from(0, 20);
        for (int i = 0; i < behind && text.length() < 380; i++) {
            text.append(gap()).append(';').append(gap()).append(anyPart());
        }
        String whole = text.length() > 400 ? text.substring(0, 400) : text.toString();
        return dice.once(4) && whole.length() > 0 ? spoilt(whole) : whole;
    }

    private String gap() {
        return dice.once(10) ? " " : "";
    }

    private int amount() {
        return dice.once(6) ? dice.from(0, 9999) : dice.once(5) ? dice.from(0, 6) : dice.from(0, 200);
    }

    private String aheadPart() {
        switch (dice.below(5)) {
            case 0:
            case 1:
                in = points++;
                return "in " + dice.below(hubs) + " " + amount();
            case 2:
                out = points++;
                return "out " + dice.below(hubs) + " " + amount();
            case 3:
                shippers++;
                return "shipper " + amount() + " " + dice.from(1, dice.once(2) ? 9 : 3) + " " + amount() + " " + amount();
            default:
                return "segment " + dice.below(hubs - 1) + " " + amount() + " " + dice.from(0, 50);
        }
    }

    private String anyPart() {
        int shipper = dice.below(Math.max(1, shippers));
        switch (dice.below(8)) {
            case 0:
                return "price " + dice.from(0, 999) + " " + dice.from(0, 100);
            case 1:
                return "park " + shipper + " " + in + " " + amount();
            case 2:
                return "loan " + shipper + " " + out + " " + amount();
            case 3:
                return aheadPart();
            default:
                return "nom " + shipper + " " + in + " " + out + " " + amount();
        }
    }

    private String spoilt(String text) {
        int at = dice.below(text.length());
        String signs = "0123456789;  abinouthubsegm\tA,\u00e9";
        char sign = signs.charAt(dice.below(signs.length()));
        switch (dice.below(3)) {
            case 0:
                return text.substring(0, at) + sign + text.substring(at + 1);
            case 1:
                return text.substring(0, at);
            default:
                return text.substring(0, at) + text.substring(at + 1);
        }
    }
}
