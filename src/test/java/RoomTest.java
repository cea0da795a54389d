import com.sun.management.ThreadMXBean;
import java.lang.management.ManagementFactory;

/** LANGUAGE.md, rule 12: calls, of whatever kind, make next to nothing new, and wild numbers end in an answer. */
final class RoomTest extends Checks {
    private static final int KINDS = 29;
    private static final int[] WILD = {Integer.MIN_VALUE, -101, -5, -1, 0, 1, 4, 5, 11, 12, 59, 60, 100, 65536,
        Integer.MAX_VALUE};

    public static void main(String[] args) {
        ThreadMXBean threads = (ThreadMXBean) ManagementFactory.getThreadMXBean();
        for (int kind = 0; kind < KINDS; kind++) {
            // What the machine makes once, when a call is new to it, is not the object's.
            calls(fullLogs(), kind);
            CaravanLogs x = fullLogs();
            long before = threads.getCurrentThreadAllocatedBytes();
            calls(x, kind);
            long made = threads.getCurrentThreadAllocatedBytes() - before;
            due("bytes made by call " + kind + ", " + made + ", beyond 50000", made > 50000 ? 1 : 0, 0);
        }
        for (int kind = 0; kind < KINDS; kind++) {
            for (int one : WILD) {
                for (int other : WILD) {
                    for (int third : WILD) {
                        CaravanLogs x = after("d2;w2a;m2;w2b");
                        due("an answer", call(x, kind, one, other, third) >= -200 ? 1 : 0, 1);
                    }
                }
            }
        }
        end();
    }

    private static CaravanLogs fullLogs() {
        return after("d2;w2a;w2b;w2c;w2d;w2a;w2b;w2c;w2d;w2a;w2b;w2c;w2d;m2;z1;r03-");
    }

    private static void calls(CaravanLogs x, int kind) {
        for (int i = 0; i < 220; i++) {
            call(x, kind, i % 5, (i / 2) % 5, i % 2);
        }
    }

    private static int call(CaravanLogs x, int kind, int one, int other, int third) {
        switch (kind) {
            case 0: return x.dusk(one);
            case 1: return x.write(one, other);
            case 2: return x.march(one);
            case 3: return x.road(one, other, third);
            case 4: return x.sleep(one, third);
            case 5: return x.pass(one);
            case 6: return x.campOf(one, other);
            case 7: return x.pageOf(one, other, third);
            case 8: return x.reaches(one, other);
            case 9: return x.matches(one, other);
            case 10: return x.matchesAgain(one, other);
            case 11: return x.captain();
            case 12: return x.holders(one, other);
            case 13: return x.letters(one);
            case 14: return x.would(one);
            case 15: return x.captainIn();
            case 16: return x.ranked(one);
            case 17: return x.describe(one);
            case 18: return x.show(one);
            case 19: return x.sign(one);
            case 20: return x.append(one < 5 && one >= 0 ? "p30;p".charAt(one) : one);
            case 21: return x.append(one < 2 && one >= 0 ? "p3".charAt(one) : ';') > 0 ? x.read() : BAD;
            case 22: return x.refusal(one);
            case 23: return x.account(one);
            case 24: return x.isWell();
            case 25: return x.share();
            case 26: return x.undo();
            case 27: return x.save();
            default: return x.restore();
        }
    }
}
