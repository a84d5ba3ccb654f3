import java.lang.management.ManagementFactory;

/** All calls of a run live in one room: a new object is small, and no call makes an object. */
public final class RoomTest {
    private static final com.sun.management.ThreadMXBean THREADS =
        (com.sun.management.ThreadMXBean) ManagementFactory.getThreadMXBean();
    private static final String TEXT = "bow 1 0 1 doubt 5;says 3 0 not 2;theft 9 0 to 1 coins 5;rule off;believe off";

    public static void main(String[] args) {
        calls(new MaskBows());
        bytes();
        long start = bytes();
        MaskBows x = new MaskBows();
        long made = bytes() - start;
        Due.holds("a new object takes " + made + " bytes", made < 24000);
        start = bytes();
        long sum = calls(x);
        long used = bytes() - start;
        Due.holds("calls made " + used + " bytes", used < 100);
        Due.holds("something was answered", sum != 0);
        Due.end("RoomTest");
    }

    private static long bytes() {
        return THREADS.getThreadAllocatedBytes(Thread.currentThread().getId());
    }

    private static long calls(MaskBows x) {
        long sum = x.people(8);
        for (int i = 0; i < 19; i++) {
            sum += x.bow(99 - i, i % 8, (i + 1) % 8, i < 5 ? 5 : 10) + x.deed(i % 6, i, i % 8, (i + 1) % 8, i);
            sum += x.says(i, i % 8, i % 7, i % 2 == 0);
        }
        x.undo();
        x.image();
        for (int round = 0; round < 6; round++) {
            sum += x.let(0, round == 3) + x.let(1, round == 4) + x.doubt(round, round + 3);
            sum += askOfNights(x, round) + askOfDeeds(x, round) + tell(x, round);
        }
        return sum;
    }

    private static long askOfNights(MaskBows x, int i) {
        long sum = x.nights() + x.all() + x.likeliest() + x.wore(i, 50) + x.may(i, 50) + x.odds(i, i, 50);
        sum += x.behind(i, 50) + x.met(i) + x.lie() + x.ask() + x.witnesses() + x.unsure() + x.home();
        return sum + x.homeBow(i) + x.atHome(90) + x.since(i) + x.bowOf(i, 0) + x.sayingOf(i, 0);
    }

    private static long askOfDeeds(MaskBows x, int i) {
        long sum = x.deedOf(i, 5) + x.deedOf(i, 6) + x.turn(i, 5 - i) + x.as(i, 0) + x.who(i, 0) + x.same(i, i + 1);
        return sum + x.owes(i) + x.owesTo(i, i + 1) + x.bound(i, i + 1);
    }

    private static long tell(MaskBows x, int i) {
        long sum = x.wipe();
        for (int at = 0; at < TEXT.length(); at++) {
            sum += x.feed(TEXT.charAt(at), 1);
        }
        sum += x.carnival() + x.undo() + x.image() + x.sheet(0, 64, 9) + x.sheet(1, 64, 9) + x.write(0, i, 7);
        sum += x.copy(0, 0, 1, 2, 5) + x.ledger(1, 70) + x.read(1, 70) + x.lays(0) + x.undo();
        return sum + (i == 5 ? x.tear() : 0) + x.count(i) + x.status(i);
    }
}
