/** Promises 22 to 24 of every layer and case there is, against the model. */
public final class AllLayersTest {
    public static void main(String[] args) {
        for (int a = 1; a <= 12; a++) {
            for (int b = 1; b <= 12; b++) {
                Due.part("22 to 24, " + a + " by " + b);
                for (int x = 1; x <= 12; x++) {
                    for (int y = 1; y <= 12; y++) {
                        same(x, y, a, b);
                    }
                }
            }
        }
        Due.end();
    }

    private static void same(int x, int y, int a, int b) {
        CaseLine one = new CaseLine();
        Model other = new Model();
        String of = " of " + x + " by " + y;
        int most = other.layer(x, y, a, b);
        Due.due("layer" + of, one.layer(x, y, a, b), most);
        Due.due("holds" + of, one.holds(), other.holds());
        // 512 calls are good: of the fullest layers the last places only.
        for (int i = Math.max(0, most - 120); i <= most; i++) {
            for (int what = 0; what < 4; what++) {
                Due.due("planned " + i + " " + what + of, one.planned(i, what), other.planned(i, what));
            }
        }
    }
}
