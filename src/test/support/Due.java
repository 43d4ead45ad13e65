/** Counts the answers that are not the due ones, and prints each of them. */
final class Due {
    private static int wrong = 0;

    private Due() {
    }

    static void is(String what, long got, long want) {
        if (got != want) {
            wrong++;
            System.out.println(what + " answered " + got + ", due is " + want);
        }
    }

    static void isSame(String what, String got, String want) {
        if (!got.equals(want)) {
            wrong++;
            System.out.println(what + " told " + got + ", due is " + want);
        }
    }

    static void end(String test) {
        if (wrong != 0) {
            System.out.println(test + ": " + wrong + " answers are not as due");
            System.exit(1);
        }
    }
}
