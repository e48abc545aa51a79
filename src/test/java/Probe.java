import java.util.ArrayList;
import java.util.List;

/** All that can be seen of an object but status(), by some 300 calls that leave little of it as it was. */
final class Probe {
    private final List<Integer> seen = new ArrayList<>();
    private final YesterdayScale x;

    private Probe(YesterdayScale x) {
        this.x = x;
    }

    static List<Integer> of(YesterdayScale x) {
        Probe probe = new Probe(x);
        probe.see(x.fault(), x.count(0), x.count(6));
        for (int i = 0; i < 7; i++) {
            probe.see(x.trace(i));
        }
        probe.port();
        probe.see(x.port(), x.fault(), x.count(3), x.count(5));
        for (int k = 0; k < 2; k++) {
            probe.see(x.restore(k));
            probe.port();
        }
        probe.rows();
        return probe.seen;
    }

    private void see(int... answers) {
        for (int answer : answers) {
            seen.add(answer);
        }
    }

    private void port() {
        int things = x.count(1);
        int days = x.count(2);
        see(things, days, x.count(3), x.count(4), x.count(5));
        for (int i = 0; i < things; i++) {
            see(x.heavy(i, -1), x.kind(i));
        }
        for (int i = 0; i < days; i++) {
            see(x.shown(i, 0), x.shown(i, 2));
        }
    }

    /** ITEMS of 0 to 7 come out as what a THING weighs. Of ROWS 0 to 2 up to three ITEMS are seen. */
    private void rows() {
        Checks.feed(x, "law 0 0 9;thing salt 0;day 1;");
        x.port();
        for (int row = 0; row < 3; row++) {
            for (int lane = 0; lane < 3; lane++) {
                x.row(7, lane, 1);
                for (int i = 0; i < 3; i++) {
                    see(x.copy(row, i, 7, 0, 1), x.sure(7, 0));
                }
            }
            see(x.drop(row));
        }
    }
}
