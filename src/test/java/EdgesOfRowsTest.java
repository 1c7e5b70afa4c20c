import java.util.Random;

/** The edges that promises 1, 4, 5, 6 and 12 name, a test for each sentence; the sentence stands above it. */
public final class EdgesOfRowsTest {
    private static final byte[] ZEROS = new byte[16];
    private static final byte[] KEY = Checks.hex("2b7e151628aed2a6abf7158809cf4f3c");
    private static final int[] NO_KEYS = {0, 2, -1, 16, 17, 257, Integer.MIN_VALUE, Integer.MAX_VALUE};
    private static final int[] NO_BITS = {31, 129, 30, 130, 0, 1, -1, -32, -128, 256, 288, 1 << 16,
        Integer.MIN_VALUE, Integer.MAX_VALUE};

    public static void main(String[] args) {
        noKeys();
        noMessage();
        objectsShareNothing();
        lostOctets();
        roomAgainBehindAFullMessage();
        otherBitsAreNought();
        howManyOctets();
        emptyAfterCode();
        codeNeedsAKey();
        bitsOutsideTheRange();
        beforeAndBehindOut();
        shorterRowsHideLongerOnes();
        emptyAfterEncipher();
        encipherNeedsAKey();
        notSixteenOctets();
        Checks.end();
    }

    private static MessageCodes withKey(byte[] key) {
        MessageCodes x = new MessageCodes();
        x.key();
        Checks.giveKey(x, 1, key);
        return x;
    }

    private static byte[] drawn(int seed, int length) {
        byte[] row = new byte[length];
        new Random(seed).nextBytes(row);
        return row;
    }

    private static void dueMessage(String when, MessageCodes x, byte[] row) {
        Checks.due("code of the message " + when, x.code(1, 128), 16);
        Checks.dueOut("the message " + when, x, Checks.libraryCode(KEY, row));
    }

    /** A new object: "No keys". */
    private static void noKeys() {
        MessageCodes x = new MessageCodes();
        for (int key : new int[] {0, 1, 2, 16}) {
            Checks.due("check(" + key + ")", x.check(key), 0);
            Checks.due("code(" + key + ", 128)", x.code(key, 128), -1);
            Checks.due("encipher(" + key + ")", x.encipher(key), -1);
            Checks.due("verify(" + key + ", 1, 1)", x.verify(key, 1, 1), -1);
            Checks.due("install(" + key + ", " + key + ", 1)", x.install(key, key, 1), -1);
            Checks.due("may(1, " + key + ", true)", x.may(1, key, true), -1);
            x.keyByte(key, (byte) 1);
        }
        Checks.due("key()", x.key(), 1);
        Checks.due("check(1)", x.check(1), Checks.checkValue(ZEROS));
    }

    /** A new object: "no message." */
    private static void noMessage() {
        MessageCodes x = withKey(KEY);
        x.may(1, 1, true);
        Checks.due("encipher(1)", x.encipher(1), -3);
        Checks.due("install(1, 1, 1)", x.install(1, 1, 1), -3);
        Checks.due("verify(1, 1, 1)", x.verify(1, 1, 1), -3);
        dueMessage("of a new object", x, new byte[0]);
    }

    /** A new object is new, whatever was done with another one. */
    private static void objectsShareNothing() {
        MessageCodes used = withKey(KEY);
        used.may(1, 1, true);
        used.fresh(1, 50);
        used.trip(7);
        used.fresh(1, 60);
        used.code(1, 128);
        Checks.giveMessage(used, drawn(1, 20));
        MessageCodes x = new MessageCodes();
        Checks.due("key()", x.key(), 1);
        Checks.due("check(1)", x.check(1), Checks.checkValue(ZEROS));
        Checks.due("out(0)", Checks.outOrNothing(x, 0), Checks.NOTHING_THERE);
        Checks.due("encipher(1)", x.encipher(1), -3);
        Checks.due("may(1, 1, false)", x.may(1, 1, false), 0);
        Checks.due("fresh(1, 1)", x.fresh(1, 1), 1);
        Checks.due("trip(1)", x.trip(1), 1);
        Checks.due("check(1) of the other", used.check(1), Checks.checkValue(KEY));
        dueMessage("of the other", used, drawn(1, 20));
    }

    /** octet: "lost if it has 300." */
    private static void lostOctets() {
        for (int more : new int[] {0, 1, 2, 100}) {
            byte[] row = drawn(more, 300 + more);
            MessageCodes x = withKey(KEY);
            Checks.giveMessage(x, row);
            dueMessage("of 300 and " + more + " more", x, Checks.first(row, 300));
        }
        byte[] row = drawn(3, 299);
        MessageCodes x = withKey(KEY);
        Checks.giveMessage(x, row);
        x.octet((byte) 1);
        x.octet((byte) 2);
        dueMessage("whose last octet was the 300th", x, Checks.join(row, new byte[] {1}));
    }

    /** octet: the lost ones come not back when there is room again; a full message may be verified. */
    private static void roomAgainBehindAFullMessage() {
        MessageCodes x = withKey(KEY);
        x.may(1, 1, true);
        Checks.giveMessage(x, Checks.codedRow(KEY, 1, 0, 1, drawn(4, 292)));
        x.octet((byte) 9);
        Checks.due("verify of a full message", x.verify(1, 1, 1), 1);
        Checks.giveMessage(x, Checks.hex("0a0b0c"));
        dueMessage("behind a full one", x, Checks.hex("0a0b0c"));
    }

    /** code: "(the last octet's other bits are 0)", with a key whose code has ones there. */
    private static void otherBitsAreNought() {
        for (int bits = 32; bits <= 128; bits++) {
            int octets = (bits + 7) / 8;
            byte[] row = rowWithOnesAt(octets - 1);
            byte[] due = Checks.first(Checks.libraryCode(KEY, row), octets);
            due[octets - 1] = (byte) (255 << (8 * octets - bits));
            MessageCodes x = withKey(KEY);
            Checks.giveMessage(x, row);
            x.code(1, bits);
            Checks.dueOut("code of " + bits + " bits", x, due);
        }
    }

    /** A row whose code has an octet of ones at a place. */
    private static byte[] rowWithOnesAt(int place) {
        for (int i = 0; i < 100000; i++) {
            byte[] row = Checks.number(i, 3);
            if (Checks.libraryCode(KEY, row)[place] == -1) {
                return row;
            }
        }
        throw new IllegalStateException("no such row");
    }

    /** code: "how many octets." */
    private static void howManyOctets() {
        int[] bits = {32, 33, 39, 40, 41, 48, 49, 64, 65, 120, 121, 127, 128};
        int[] octets = {4, 5, 5, 5, 6, 6, 7, 8, 9, 15, 16, 16, 16};
        MessageCodes x = withKey(KEY);
        for (int i = 0; i < bits.length; i++) {
            Checks.due("code(1, " + bits[i] + ")", x.code(1, bits[i]), octets[i]);
            int last = octets[i] - 1;
            Checks.due("out(" + last + ") is there", Checks.outOrNothing(x, last) == Checks.NOTHING_THERE ? 0 : 1, 1);
            Checks.due("out behind it", Checks.outOrNothing(x, octets[i]), Checks.NOTHING_THERE);
        }
    }

    /** code: "the message is empty then". */
    private static void emptyAfterCode() {
        for (int length : new int[] {0, 1, 16, 24, 300}) {
            MessageCodes x = withKey(KEY);
            Checks.giveMessage(x, drawn(length, length));
            x.code(1, 32);
            Checks.due("encipher(1) after " + length, x.encipher(1), -3);
            Checks.due("install(1, 1, 1) after " + length, x.install(1, 1, 1), -3);
            dueMessage("after a code of " + length, x, new byte[0]);
        }
    }

    /** code: "-1 there is no key", before -2. */
    private static void codeNeedsAKey() {
        MessageCodes x = withKey(KEY);
        x.code(1, 40);
        Checks.giveMessage(x, drawn(5, 5));
        for (int key : NO_KEYS) {
            Checks.due("code(" + key + ", 128)", x.code(key, 128), -1);
            Checks.due("code(" + key + ", 31)", x.code(key, 31), -1);
            Checks.due("code(" + key + ", the highest)", x.code(key, Integer.MAX_VALUE), -1);
        }
        Checks.dueOut("OUT has stayed", x, Checks.first(Checks.libraryCode(KEY, new byte[0]), 5));
        dueMessage("has stayed", x, drawn(5, 5));
    }

    /** code: "-2 bits are not 32 .. 128." */
    private static void bitsOutsideTheRange() {
        MessageCodes x = withKey(KEY);
        x.code(1, 48);
        Checks.giveMessage(x, drawn(6, 6));
        for (int bits : NO_BITS) {
            Checks.due("code(1, " + bits + ")", x.code(1, bits), -2);
        }
        Checks.dueOut("OUT has stayed", x, Checks.first(Checks.libraryCode(KEY, new byte[0]), 6));
        dueMessage("has stayed", x, drawn(6, 6));
        Checks.due("code(1, 32), the least", x.code(1, 32), 4);
        Checks.due("code(1, 128), the most", x.code(1, 128), 16);
    }

    /** out: "ArrayIndexOutOfBoundsException before and behind it." */
    private static void beforeAndBehindOut() {
        for (int bits : new int[] {32, 33, 64, 120, 128}) {
            MessageCodes x = withKey(KEY);
            int octets = x.code(1, bits);
            for (int i = 0; i < octets; i++) {
                Checks.due("out(" + i + ") is there", Checks.outOrNothing(x, i) == Checks.NOTHING_THERE ? 0 : 1, 1);
            }
            for (int i : new int[] {-1, -2, -16, Integer.MIN_VALUE, octets, octets + 1, 16, 17, 256, 299, 300,
                Integer.MAX_VALUE}) {
                Checks.due("out(" + i + ") of " + octets, Checks.outOrNothing(x, i), Checks.NOTHING_THERE);
            }
            Checks.dueOut("OUT after all that", x, cut(Checks.libraryCode(KEY, new byte[0]), bits));
        }
    }

    private static byte[] cut(byte[] code, int bits) {
        int octets = (bits + 7) / 8;
        byte[] row = Checks.first(code, octets);
        row[octets - 1] &= (byte) (255 << (8 * octets - bits));
        return row;
    }

    /** out: OUT is the row that was answered last, not what was left of a longer one. */
    private static void shorterRowsHideLongerOnes() {
        MessageCodes x = withKey(KEY);
        Checks.giveMessage(x, drawn(7, 16));
        x.encipher(1);
        Checks.dueOut("a block", x, Checks.libraryCipher(KEY, drawn(7, 16)));
        x.code(1, 33);
        Checks.dueOut("a code behind it", x, cut(Checks.libraryCode(KEY, new byte[0]), 33));
        Checks.giveMessage(x, drawn(8, 16));
        x.encipher(1);
        Checks.dueOut("a block behind that", x, Checks.libraryCipher(KEY, drawn(8, 16)));
    }

    /** encipher: "the message is empty then: 16." */
    private static void emptyAfterEncipher() {
        MessageCodes x = withKey(KEY);
        for (int i = 0; i < 3; i++) {
            Checks.giveMessage(x, drawn(i, 16));
            Checks.due("encipher(1)", x.encipher(1), 16);
            Checks.dueOut("encipher(1)", x, Checks.libraryCipher(KEY, drawn(i, 16)));
            Checks.due("encipher(1) of nothing", x.encipher(1), -3);
        }
        dueMessage("after encipher", x, new byte[0]);
    }

    /** encipher: "-1 there is no key", before -3. */
    private static void encipherNeedsAKey() {
        for (int length : new int[] {0, 15, 16, 17, 300}) {
            MessageCodes x = withKey(KEY);
            Checks.giveMessage(x, drawn(9, length));
            for (int key : NO_KEYS) {
                Checks.due("encipher(" + key + ") of " + length, x.encipher(key), -1);
            }
            Checks.due("OUT has stayed", Checks.outOrNothing(x, 0), Checks.NOTHING_THERE);
            dueMessage("has stayed", x, drawn(9, length));
        }
    }

    /** encipher: "-3 the message has not 16 octets." */
    private static void notSixteenOctets() {
        MessageCodes x = withKey(KEY);
        byte[] row = drawn(10, 300);
        for (int i = 0; i < 16; i++) {
            Checks.due("encipher(1) of " + i, x.encipher(1), -3);
            x.octet(row[i]);
        }
        Checks.due("encipher(1) of 16", x.encipher(1), 16);
        Checks.giveMessage(x, Checks.first(row, 16));
        for (int i = 16; i < 300; i++) {
            x.octet(row[i]);
            if (i < 50 || i > 290) {
                Checks.due("encipher(1) of " + (i + 1), x.encipher(1), -3);
            }
        }
        Checks.dueOut("OUT has stayed", x, Checks.libraryCipher(KEY, Checks.first(row, 16)));
        dueMessage("has stayed", x, row);
    }
}
