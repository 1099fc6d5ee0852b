/** What Behind reads tells of every change: a call that is not refused is seen in it. */
public final class BehindTest {
    public static void main(String[] args) {
        Due.part("Behind, what changes is seen");
        changes("line", x -> x.line(3));
        changes("pace", x -> x.set(1, 0, 3));
        changes("r", x -> x.set(2, 1, 3));
        changes("s", x -> x.set(0, 2, 50));
        changes("gap", x -> x.set(1, 3, 7));
        changes("fault", x -> x.fault(0, 60, 60));
        changes("a far fault", x -> x.fault(0, 9998, 9998));
        changes("supply", x -> x.supply(1));
        changes("lot", x -> x.lot(8));
        changes("ticks", x -> x.ticks(1));
        changes("confirm", x -> x.confirm(0));
        for (int what = 0; what < 6; what++) {
            int of = what;
            changes("rule " + what, x -> x.rule(of, 5 + 2 * of));
        }
        changes("pack", x -> x.pack(15, 29));
        changes("close", x -> x.close(5));
        changes("stack", x -> x.stack(3, 5));
        changes("seal", x -> x.seal(0));
        changes("break up a pallet", x -> x.breakUp(1, 1));
        changes("break up a case", x -> x.breakUp(0, 29));
        changes("layer", x -> x.layer(8, 7, 3, 2));
        changes("change", x -> x.change(5, 4, 29));
        changes("stain", x -> x.stain(5, 1));
        changes("scale", x -> x.scale(15, 0));
        same("about", x -> x.about(0, 0));
        same("layer of before", x -> x.layer(9, 7, 3, 2));
        same("tour", x -> x.tour(63, 0, 3));
        same("an empty case", x -> x.breakUp(0, 28));
        Due.end();
    }

    private static void changes(String call, Behind.Call on) {
        Due.due(call + " is seen", Behind.changedPart(Behind.BUSY, on) != Behind.NONE ? 1 : 0, 1);
    }

    private static void same(String call, Behind.Call on) {
        Due.due(call + " changes nothing", Behind.changedPart(Behind.BUSY, on), Behind.NONE);
    }
}
