/** Counts answers that are not as due; every test closes with end(). */
final class Due {
    private static String part = "";
    private static int asked;
    private static int wrong;

    private Due() {
    }

    static void part(String name) {
        part = name;
    }

    static void due(String call, long got, long want) {
        asked++;
        if (got != want) {
            wrong++;
            if (wrong <= 50) {
                System.out.println(part + ": " + call + " answered " + got + ", due is " + want);
            }
        }
    }

    static void end() {
        System.out.println(asked + " answers looked at, " + wrong + " not as due");
        if (wrong != 0 || asked == 0) {
            System.exit(1);
        }
    }
}
