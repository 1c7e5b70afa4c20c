import java.util.Arrays;

/** The document's first line: "Codes for rows that nobody may alter or send again". */
public final class FirstLineTest {
    private static final byte[] KEY = Checks.hex("2b7e151628aed2a6abf7158809cf4f3c");
    private static final byte[] OTHER_KEY = Checks.hex("2b7e151628aed2a6abf7158809cf4f3d");
    private static final int ID = 33;
    private static final long TRIP = 0x0a0b0c0dL;
    private static final long COUNTER = 0x0102030405L;

    public static void main(String[] args) {
        for (int length : new int[] {0, 1, 2, 3, 4, 19, 20, 35}) {
            byte[] row = new byte[length];
            for (int i = 0; i < length; i++) {
                row[i] = (byte) (37 * i + length);
            }
            nobodyAlters(row);
            nobodyCutsOrLengthens(row);
            nobodyTellsItOtherwise(row);
            nobodySendsAgain(row);
        }
        Checks.end();
    }

    /** Two keys that differ in a bit; the sender may use both; one counter below that of the row. */
    private static MessageCodes taker() {
        MessageCodes x = new MessageCodes();
        x.key();
        x.key();
        Checks.giveKey(x, 1, KEY);
        Checks.giveKey(x, 2, OTHER_KEY);
        x.may(ID, 1, true);
        x.may(ID, 2, true);
        x.may(ID + 1, 1, true);
        x.trip(TRIP);
        x.fresh(ID, COUNTER - 1);
        x.fresh(ID + 1, COUNTER - 1);
        return x;
    }

    private static int send(MessageCodes x, int key, int id, int cut, byte[] message) {
        Checks.giveMessage(x, message);
        return x.verify(key, id, cut);
    }

    private static int sendAsItIs(MessageCodes x, byte[] message) {
        return send(x, 1, ID, (int) (COUNTER & 255), message);
    }

    /** A try of something else was no row of the sender; the row itself is taken still. */
    private static void dueNotTaken(String what, int answer, MessageCodes x, byte[] good) {
        Checks.due(what + " (row of " + (good.length - 8) + ")", answer, 0);
        Checks.due("the row after " + what, sendAsItIs(x, good), 1);
    }

    private static void nobodyAlters(byte[] row) {
        byte[] good = Checks.codedRow(KEY, ID, TRIP, COUNTER, row);
        for (int bit = 0; bit < 8 * good.length; bit++) {
            MessageCodes x = taker();
            byte[] altered = good.clone();
            altered[bit / 8] ^= (byte) (1 << (bit % 8));
            dueNotTaken("bit " + bit + " altered", sendAsItIs(x, altered), x, good);
        }
    }

    private static void nobodyCutsOrLengthens(byte[] row) {
        byte[] good = Checks.codedRow(KEY, ID, TRIP, COUNTER, row);
        byte[] code = Arrays.copyOfRange(good, row.length, good.length);
        MessageCodes x = taker();
        dueNotTaken("an octet 0 behind the row", sendAsItIs(x, Checks.join(row, new byte[1], code)), x, good);
        x = taker();
        dueNotTaken("an octet 128 behind the row",
                sendAsItIs(x, Checks.join(row, new byte[] {(byte) 128}, code)), x, good);
        x = taker();
        dueNotTaken("an octet 0 behind the code", sendAsItIs(x, Checks.join(good, new byte[1])), x, good);
        x = taker();
        dueNotTaken("an octet 0 before the row", sendAsItIs(x, Checks.join(new byte[1], good)), x, good);
        if (row.length > 0) {
            x = taker();
            byte[] shorter = Checks.join(Checks.first(row, row.length - 1), code);
            dueNotTaken("a row without its last octet", sendAsItIs(x, shorter), x, good);
        }
    }

    private static void nobodyTellsItOtherwise(byte[] row) {
        byte[] good = Checks.codedRow(KEY, ID, TRIP, COUNTER, row);
        int cut = (int) (COUNTER & 255);
        MessageCodes x = taker();
        dueNotTaken("another key", send(x, 2, ID, cut, good), x, good);
        x = taker();
        dueNotTaken("another sender", send(x, 1, ID + 1, cut, good), x, good);
        x = taker();
        dueNotTaken("another counter", send(x, 1, ID, cut + 1, good), x, good);
        x = taker();
        x.trip(TRIP + 1);
        x.fresh(ID, COUNTER - 1);
        Checks.due("in another trip", sendAsItIs(x, good), 0);
        Checks.due("that trip's own", sendAsItIs(x, Checks.codedRow(KEY, ID, TRIP + 1, COUNTER, row)), 1);
    }

    /** Whatever counters come behind it, the row is never taken once more: not at once, later, or round the cut. */
    private static void nobodySendsAgain(byte[] row) {
        byte[] good = Checks.codedRow(KEY, ID, TRIP, COUNTER, row);
        for (int later : new int[] {0, 1, 64, 191, 192, 255, 256, 257, 512}) {
            MessageCodes x = taker();
            Checks.due("the row", sendAsItIs(x, good), 1);
            if (later > 0) {
                x.fresh(ID, COUNTER + later);
            }
            int ahead = Math.floorMod(-later, 256);
            Checks.due("the row again, " + later + " later", sendAsItIs(x, good), ahead > 64 ? 2 : 0);
            Checks.due("the counter stays", x.fresh(ID, COUNTER + later), 0);
            Checks.due("the next one", x.fresh(ID, COUNTER + later + 1), 1);
        }
    }
}
