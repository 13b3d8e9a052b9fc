/** Counts what was due and what was not answered so. */
final class Check {
    private final String name;
    private int right = 0;
    private int wrong = 0;

    Check(String name) {
        this.name = name;
    }

    void due(String what, long got, long want) {
        if (got == want) {
            right++;
            return;
        }
        wrong++;
        System.out.println(name + ": " + what + " answered " + got + ", due is " + want);
    }

    void isTrue(String what, boolean holds) {
        due(what, holds ? 1 : 0, 1);
    }

    void finish() {
        System.out.println(name + ": " + right + " answers as due, " + wrong + " not");
        if (wrong != 0 || right == 0) {
            System.exit(1);
        }
    }
}
