/** Promises 1 to 3: a new object, feed, end. */
final class RowTest {
    private static final int EMPTY_SHA256 = 0x42c4b0e3;

    public static void main(String[] args) {
        newObject();
        objectsApart();
        feedBringsTwentyBytes();
        feedHighestByteFirst();
        feedToTheLimit();
        endCuts();
        endRefuses();
        Check.finish();
    }

    private static void newObject() {
        ScriptDesk desk = new ScriptDesk();
        Check.same("new depth", desk.depth(), 0);
        Check.same("new row's sum", desk.hash(0, 0), EMPTY_SHA256);
        Check.same("new row's end", desk.end(0), 0);
        Check.same("new row's sigs", desk.sigs(0), 0);
        Check.refused("new row has no byte", IllegalArgumentException.class, () -> desk.end(1));
        Check.refused("new stack has no size", IndexOutOfBoundsException.class, () -> desk.size(0));
        Check.same("new row runs", desk.run(0), 1);
    }

    private static void objectsApart() {
        ScriptDesk one = new ScriptDesk();
        ScriptDesk two = new ScriptDesk();
        Scripts.run(one, "1", "2");
        Scripts.feed(one, new byte[7]);
        Check.same("the other one's depth", two.depth(), 0);
        Check.same("the other one's row", two.feed(0, 0, 0, 0, 0), 20);
        Check.same("the one's depth", one.depth(), 2);
    }

    private static void feedBringsTwentyBytes() {
        ScriptDesk desk = new ScriptDesk();
        for (int i = 1; i <= 50; i++) {
            Check.same("feed " + i, desk.feed(i, -i, 0, Integer.MIN_VALUE, Integer.MAX_VALUE), 20 * i);
        }
    }

    private static void feedHighestByteFirst() {
        ScriptDesk desk = new ScriptDesk();
        desk.feed(0x13010203, 0x04050607, 0x08090a0b, 0x0c0d0e0f, 0x10111213);
        Check.same("run of one push", desk.run(20), 2);
        Check.same("bytes in order", Scripts.stack(desk), "0102030405060708090a0b0c0d0e0f10111213");
        desk.feed(0x13ffeedd, 0xccbbaa99, 0x88776655, 0x44332211, 0x00ff8001);
        desk.run(0);
        Check.same("high bytes in order", Scripts.stack(desk), "ffeeddccbbaa99887766554433221100ff8001");
    }

    private static void feedToTheLimit() {
        ScriptDesk desk = Scripts.fed(new byte[1000]);
        int sum = desk.hash(0, 0);
        Check.refused("feed above 1000", IllegalStateException.class, () -> desk.feed(1, 2, 3, 4, 5));
        Check.same("the row stays", desk.hash(0, 0), sum);
        Check.same("still 1000", desk.end(1000), 1000);
        desk.end(981);
        Check.refused("feed to 1001", IllegalStateException.class, () -> desk.feed(1, 2, 3, 4, 5));
        desk.end(980);
        Check.same("feed to 1000", desk.feed(1, 2, 3, 4, 5), 1000);
        desk.run(0);
        Check.same("feed behind run", desk.feed(1, 2, 3, 4, 5), 20);
    }

    private static void endCuts() {
        ScriptDesk desk = Scripts.fed(Scripts.bytes("1 2 3"));
        Check.same("end at all", desk.end(3), 3);
        Check.same("end at two", desk.end(2), 2);
        Check.refused("end does not lengthen", IllegalArgumentException.class, () -> desk.end(3));
        Check.same("feed behind end", desk.feed(0x60000000, 0, 0, 0, 0), 22);
        desk.end(3);
        desk.run(3);
        Check.same("what was cut is gone", Scripts.stack(desk), "01 02 10");
        Scripts.feed(desk, Scripts.bytes("1 2 3"));
        Check.same("end at none", desk.end(0), 0);
        Check.same("an empty row's sum", desk.hash(0, 0), EMPTY_SHA256);
    }

    private static void endRefuses() {
        ScriptDesk desk = Scripts.fed(new byte[20]);
        for (int n : new int[] {-1, Integer.MIN_VALUE, 21, 1000, Integer.MAX_VALUE}) {
            Check.refused("end " + n, IllegalArgumentException.class, () -> desk.end(n));
        }
        Check.same("the row stays", desk.feed(0, 0, 0, 0, 0), 40);
    }
}
