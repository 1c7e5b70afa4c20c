import java.math.BigInteger;
import java.util.Arrays;
import java.util.Random;

/** The edges that the document's Terms name, a test for each sentence; the sentence stands above it. */
public final class EdgesOfTermsTest {
    private static final byte[] ZEROS = new byte[16];
    private static final byte[] KEY = Checks.hex("8081fe7f00ff01c0fb55aa3311778899");

    public static void main(String[] args) {
        bytesWithSign();
        keysFromOneToSixteen();
        keysAreZeroAtFirst();
        installingCountersAreZeroAtFirst();
        messageHasThreeHundredAtMost();
        inverseOfNought();
        bitsThatGoOut();
        oneBlockAtLeast();
        wholeLastBlocks();
        otherLastBlocks();
        sendersFromOneToSixtyFour();
        sendersCountersAreZeroAtFirst();
        sendersMayUseNothingAtFirst();
        tripIsZeroAtFirst();
        outIsEmptyAtFirst();
        Checks.end();
    }

    private static MessageCodes withKey(byte[] key) {
        MessageCodes x = new MessageCodes();
        x.key();
        Checks.giveKey(x, 1, key);
        return x;
    }

    private static void dueCode(byte[] key, byte[] row) {
        MessageCodes x = withKey(key);
        Checks.giveMessage(x, row);
        Checks.due("code of " + row.length + " octets", x.code(1, 128), 16);
        Checks.dueOut("code of " + row.length + " octets", x, Checks.libraryCode(key, row));
    }

    private static byte[] drawn(int seed, int length) {
        byte[] row = new byte[length];
        new Random(seed).nextBytes(row);
        return row;
    }

    /** "OCTETS are 0 .. 255 (a byte with sign stands for the one with the same eight bits)." */
    private static void bytesWithSign() {
        for (byte b : new byte[] {0, 1, 127, -128, -127, -1}) {
            byte[] row = new byte[16];
            Arrays.fill(row, b);
            MessageCodes x = withKey(row);
            Checks.due("a key of " + b + ", check", x.check(1), Checks.checkValue(row));
            Checks.giveMessage(x, row);
            x.encipher(1);
            Checks.dueOut("a block of " + b, x, Checks.libraryCipher(row, row));
        }
        MessageCodes x = withKey(ZEROS);
        Checks.giveMessage(x, ZEROS);
        x.encipher(1);
        Checks.due("102 is answered as it is", Checks.outOrNothing(x, 0), 102);
        Checks.due("233 is answered with its sign", Checks.outOrNothing(x, 1), -23);
    }

    /** "KEYS are numbered from 1 on, at most 16; each has 16 octets". */
    private static void keysFromOneToSixteen() {
        MessageCodes x = new MessageCodes();
        for (int key = 1; key <= 16; key++) {
            Checks.due("key " + key, x.key(), key);
        }
        for (int key = 16; key >= 1; key--) {
            Checks.giveKey(x, key, drawn(key, 16));
        }
        for (int key = 1; key <= 16; key++) {
            Checks.due("check(" + key + ")", x.check(key), Checks.checkValue(drawn(key, 16)));
        }
        x.octet((byte) 7);
        Checks.due("code(16, 128)", x.code(16, 128), 16);
        Checks.dueOut("the last key's code", x, Checks.libraryCode(drawn(16, 16), new byte[] {7}));
        Checks.giveMessage(x, ZEROS);
        Checks.due("encipher(16)", x.encipher(16), 16);
        Checks.dueOut("the last key's block", x, Checks.libraryCipher(drawn(16, 16), ZEROS));
        Checks.due("may(64, 16, true)", x.may(64, 16, true), 1);
        Checks.giveMessage(x, Checks.codedRow(drawn(16, 16), 64, 0, 1, new byte[3]));
        Checks.due("verify(16, 64, 1)", x.verify(16, 64, 1), 1);
        Checks.giveMessage(x, Checks.wrappedKey(drawn(1, 16), KEY, 1));
        Checks.due("install(16, 1, 1)", x.install(16, 1, 1), 1);
        Checks.giveMessage(x, Checks.wrappedKey(KEY, KEY, 1));
        Checks.due("install(1, 16, 1)", x.install(1, 16, 1), 1);
        Checks.due("check(1)", x.check(1), Checks.checkValue(KEY));
    }

    /** "at first all 0": in the last key as in the first, and whatever the ones before it hold. */
    private static void keysAreZeroAtFirst() {
        MessageCodes x = new MessageCodes();
        for (int key = 1; key <= 16; key++) {
            x.key();
            Checks.due("check of the new key " + key, x.check(key), 0x66e94bd4);
            Checks.giveKey(x, key, KEY);
        }
    }

    /** "a COUNTER of its installing, at first 0": so 0 is not above it, and 1 is. */
    private static void installingCountersAreZeroAtFirst() {
        for (int key : new int[] {1, 2, 16}) {
            MessageCodes x = new MessageCodes();
            for (int i = 1; i <= 16; i++) {
                x.key();
            }
            Checks.giveMessage(x, Checks.wrappedKey(ZEROS, KEY, 0));
            Checks.due("install(" + key + ", 3, 0)", x.install(key, 3, 0), 0);
            Checks.giveMessage(x, Checks.wrappedKey(ZEROS, KEY, 1));
            Checks.due("install(" + key + ", 3, 1)", x.install(key, 3, 1), 1);
        }
    }

    /** "THE MESSAGE is a row of at most 300 octets". */
    private static void messageHasThreeHundredAtMost() {
        for (int length : new int[] {298, 299, 300, 301, 302, 316, 332}) {
            byte[] row = drawn(length, length);
            MessageCodes x = withKey(KEY);
            Checks.giveMessage(x, row);
            x.code(1, 128);
            Checks.dueOut(length + " octets", x, Checks.libraryCode(KEY, Checks.first(row, Math.min(length, 300))));
        }
    }

    /** "S(x): y with x * y = 1 (0 for 0)": S(0), which is 99, is met alone where key and block are equal. */
    private static void inverseOfNought() {
        for (byte[] both : new byte[][] {ZEROS, KEY}) {
            MessageCodes x = withKey(both);
            Checks.giveMessage(x, both);
            x.encipher(1);
            Checks.dueOut("a block that is its key", x, Checks.libraryCipher(both, both));
        }
    }

    /** "the last octet xor 135 if a bit went out; K2 is K1 doubled": with and without it, both times. */
    private static void bitsThatGoOut() {
        boolean[] met = new boolean[4];
        int kinds = 0;
        for (int seed = 1; kinds < 4 && seed < 1000; seed++) {
            byte[] key = drawn(seed, 16);
            BigInteger begin = new BigInteger(1, Checks.libraryCipher(key, ZEROS));
            // K1's highest bit is the second one of L.
            int kind = (begin.testBit(127) ? 2 : 0) + (begin.testBit(126) ? 1 : 0);
            if (!met[kind]) {
                met[kind] = true;
                kinds++;
                dueCode(key, drawn(seed, 16));
                dueCode(key, drawn(seed, 15));
            }
        }
        Checks.due("kinds of keys met", kinds, 4);
    }

    /** "M is cut into blocks, one at least". */
    private static void oneBlockAtLeast() {
        dueCode(KEY, new byte[0]);
        dueCode(ZEROS, new byte[0]);
    }

    /** "a last one that is whole xor K1". */
    private static void wholeLastBlocks() {
        for (int length : new int[] {16, 32, 48, 272, 288}) {
            dueCode(KEY, drawn(length, length));
            dueCode(KEY, new byte[length]);
        }
    }

    /** "another gets an octet 128 behind it, then 0s, and xor K2": not the same as a row that ends so itself. */
    private static void otherLastBlocks() {
        for (int length : new int[] {1, 2, 14, 15, 17, 31, 33, 287, 289, 299, 300}) {
            dueCode(KEY, drawn(length, length));
            dueCode(KEY, new byte[length]);
        }
        dueCode(KEY, Checks.hex("010203040506070809000a0b0c0d0e80"));
        dueCode(KEY, Checks.hex("010203040506070809000a0b0c0d0e"));
        dueCode(KEY, Checks.hex("80"));
        dueCode(KEY, Checks.hex("80000000000000000000000000000000"));
    }

    /** "SENDERS have identities, 1 to 64". */
    private static void sendersFromOneToSixtyFour() {
        MessageCodes x = withKey(KEY);
        for (int id = 1; id <= 64; id++) {
            Checks.due("may(" + id + ", 1, true)", x.may(id, 1, true), 1);
        }
        for (int id : new int[] {1, 2, 32, 63, 64}) {
            Checks.giveMessage(x, Checks.codedRow(KEY, id, 0, 1, new byte[0]));
            Checks.due("verify(1, " + id + ", 1)", x.verify(1, id, 1), 1);
        }
        for (int id : new int[] {0, 65, -1, -64, 128, 256 + 1, Integer.MIN_VALUE, Integer.MAX_VALUE}) {
            Checks.due("may(" + id + ", 1, true)", x.may(id, 1, true), -1);
            Checks.due("fresh(" + id + ", 1)", x.fresh(id, 1), -1);
            Checks.due("verify(1, " + id + ", 1)", x.verify(1, id, 1), -1);
        }
    }

    /** "a COUNTER, the last one that was taken from it, at first 0, at most 2^62": each has its own. */
    private static void sendersCountersAreZeroAtFirst() {
        MessageCodes x = new MessageCodes();
        for (int id = 1; id <= 64; id++) {
            Checks.due("fresh(" + id + ", 0)", x.fresh(id, 0), 0);
            Checks.due("fresh(" + id + ", 1)", x.fresh(id, 1), 1);
            Checks.due("fresh(" + id + ", 2^62)", x.fresh(id, 4611686018427387904L), 1);
            Checks.due("fresh(" + id + ", 2^62 + 1)", x.fresh(id, 4611686018427387905L), -2);
        }
    }

    /** "each with the keys that it MAY use": none before may() says so. */
    private static void sendersMayUseNothingAtFirst() {
        for (int id : new int[] {1, 33, 64}) {
            MessageCodes x = withKey(KEY);
            Checks.giveMessage(x, Checks.codedRow(KEY, id, 0, 1, new byte[1]));
            Checks.due("verify(1, " + id + ", 1) too early", x.verify(1, id, 1), -3);
            Checks.due("may(" + id + ", 1, false)", x.may(id, 1, false), 0);
            Checks.due("may(" + id + ", 1, true)", x.may(id, 1, true), 1);
            Checks.due("verify(1, " + id + ", 1)", x.verify(1, id, 1), 1);
        }
    }

    /** "The TRIP is a number, at first 0": so 0 is not above it, and rows are made with it. */
    private static void tripIsZeroAtFirst() {
        MessageCodes x = withKey(KEY);
        x.may(1, 1, true);
        Checks.due("trip(0)", x.trip(0), 0);
        Checks.giveMessage(x, Checks.codedRow(KEY, 1, 0, 1, new byte[4]));
        Checks.due("a row of trip 0", x.verify(1, 1, 1), 1);
        Checks.due("trip(1)", x.trip(1), 1);
    }

    /** "OUT is a row that was answered last, at first without octets": an empty one throws for every place. */
    private static void outIsEmptyAtFirst() {
        MessageCodes x = new MessageCodes();
        for (int i = -3; i <= 20; i++) {
            Checks.due("out(" + i + ")", Checks.outOrNothing(x, i), Checks.NOTHING_THERE);
        }
        Checks.due("out of the lowest", Checks.outOrNothing(x, Integer.MIN_VALUE), Checks.NOTHING_THERE);
        Checks.due("out of the highest", Checks.outOrNothing(x, Integer.MAX_VALUE), Checks.NOTHING_THERE);
    }
}
