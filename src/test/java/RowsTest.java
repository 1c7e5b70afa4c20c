import java.util.Random;

/** Promises 4 to 6 and 12: octet, code, out, encipher. */
public final class RowsTest {
    private static final byte[] KEY = Checks.hex("2b7e151628aed2a6abf7158809cf4f3c");
    private static final String PUBLISHED = "6bc1bee22e409f96e93d7e117393172aae2d8a571e03ac9c9eb76fac45af8e51"
            + "30c81c46a35ce411e5fbc1191a0a52eff69f2445df4f9b17ad2b417be66c3710";

    public static void main(String[] args) {
        publishedCodes();
        publishedBlocks();
        everyOctetInEveryPlace();
        codesOfEveryLength();
        cutCodes();
        messageEndsAtThreeHundred();
        refusedCodesChangeNothing();
        refusedBlocksChangeNothing();
        outKeepsItsBounds();
        Checks.end();
    }

    private static MessageCodes withKey(byte[] key) {
        MessageCodes x = new MessageCodes();
        x.key();
        Checks.giveKey(x, 1, key);
        return x;
    }

    private static void publishedCodes() {
        MessageCodes x = withKey(KEY);
        int[] lengths = {0, 16, 40, 64};
        String[] codes = {"bb1d6929e95937287fa37d129b756746", "070a16b46b4d4144f79bdd9dd04a287c",
            "dfa66747de9ae63030ca32611497c827", "51f0bebf7e3b9d92fc49741779363cfe"};
        for (int i = 0; i < lengths.length; i++) {
            Checks.giveMessage(x, Checks.first(Checks.hex(PUBLISHED), lengths[i]));
            Checks.due("code of " + lengths[i] + " octets", x.code(1, 128), 16);
            Checks.dueOut("code of " + lengths[i] + " octets", x, Checks.hex(codes[i]));
        }
    }

    private static void publishedBlocks() {
        MessageCodes x = withKey(KEY);
        Checks.giveMessage(x, Checks.hex("3243f6a8885a308d313198a2e0370734"));
        Checks.due("encipher(1)", x.encipher(1), 16);
        Checks.dueOut("the first published block", x, Checks.hex("3925841d02dc09fbdc118597196a0b32"));
        MessageCodes y = withKey(Checks.hex("000102030405060708090a0b0c0d0e0f"));
        Checks.giveMessage(y, Checks.hex("00112233445566778899aabbccddeeff"));
        Checks.due("encipher(1)", y.encipher(1), 16);
        Checks.dueOut("the second published block", y, Checks.hex("69c4e0d86a7b0430d8cdb78070b4c55a"));
        Checks.due("encipher(1) of an empty message", y.encipher(1), -3);
    }

    /** So that every row of the table of S is met, by the block and by the key. */
    private static void everyOctetInEveryPlace() {
        for (int octet = 0; octet < 256; octet++) {
            byte[] key = new byte[16];
            byte[] block = new byte[16];
            for (int i = 0; i < 16; i++) {
                key[i] = (byte) (octet + 17 * i);
                block[i] = (byte) (octet * (2 * i + 1));
            }
            MessageCodes x = withKey(key);
            Checks.giveMessage(x, block);
            Checks.due("encipher(1)", x.encipher(1), 16);
            Checks.dueOut("block of octet " + octet, x, Checks.libraryCipher(key, block));
        }
    }

    private static void codesOfEveryLength() {
        Random random = new Random(1);
        for (int length = 0; length <= 300; length++) {
            byte[] key = new byte[16];
            byte[] row = new byte[length];
            random.nextBytes(key);
            random.nextBytes(row);
            MessageCodes x = withKey(key);
            Checks.giveMessage(x, row);
            Checks.due("code of " + length, x.code(1, 128), 16);
            Checks.dueOut("code of " + length, x, Checks.libraryCode(key, row));
        }
    }

    private static void cutCodes() {
        byte[] row = Checks.hex("0102030405");
        byte[] whole = Checks.libraryCode(KEY, row);
        for (int bits = 32; bits <= 128; bits++) {
            MessageCodes x = withKey(KEY);
            Checks.giveMessage(x, row);
            int octets = (bits + 7) / 8;
            byte[] want = Checks.first(whole, octets);
            for (int bit = bits; bit < 8 * octets; bit++) {
                want[octets - 1] &= (byte) ~(128 >> (bit % 8));
            }
            Checks.due("code(1, " + bits + ")", x.code(1, bits), octets);
            Checks.dueOut("code(1, " + bits + ")", x, want);
        }
    }

    private static void messageEndsAtThreeHundred() {
        byte[] row = new byte[310];
        new Random(2).nextBytes(row);
        MessageCodes x = withKey(KEY);
        Checks.giveMessage(x, row);
        Checks.due("code of 310 octets", x.code(1, 128), 16);
        Checks.dueOut("code of 310 octets", x, Checks.libraryCode(KEY, Checks.first(row, 300)));
        Checks.giveMessage(x, Checks.first(row, 3));
        x.code(1, 128);
        Checks.dueOut("code of the next message", x, Checks.libraryCode(KEY, Checks.first(row, 3)));
    }

    private static void refusedCodesChangeNothing() {
        MessageCodes x = withKey(KEY);
        Checks.giveMessage(x, Checks.hex("aabb"));
        x.code(1, 40);
        byte[] before = Checks.first(Checks.libraryCode(KEY, Checks.hex("aabb")), 5);
        Checks.giveMessage(x, Checks.hex("ccdd"));
        for (int bits : new int[] {31, 129, 0, -1, -64, Integer.MIN_VALUE, Integer.MAX_VALUE}) {
            Checks.due("code(1, " + bits + ")", x.code(1, bits), -2);
        }
        for (int key : new int[] {0, 2, -1, 17, Integer.MIN_VALUE, Integer.MAX_VALUE}) {
            Checks.due("code(" + key + ", 64)", x.code(key, 64), -1);
            Checks.due("code(" + key + ", 0)", x.code(key, 0), -1);
        }
        Checks.dueOut("OUT after refusals", x, before);
        Checks.due("code(1, 128)", x.code(1, 128), 16);
        Checks.dueOut("the message after refusals", x, Checks.libraryCode(KEY, Checks.hex("ccdd")));
    }

    private static void refusedBlocksChangeNothing() {
        byte[] row = Checks.hex(PUBLISHED);
        MessageCodes x = withKey(KEY);
        Checks.giveMessage(x, Checks.first(row, 15));
        Checks.due("encipher(1) of 15 octets", x.encipher(1), -3);
        Checks.due("encipher(2) of 15 octets", x.encipher(2), -1);
        x.octet(row[15]);
        Checks.due("encipher(0) of 16 octets", x.encipher(0), -1);
        Checks.due("OUT after refusals", Checks.outOrNothing(x, 0), Checks.NOTHING_THERE);
        Checks.due("encipher(1) of 16 octets", x.encipher(1), 16);
        Checks.dueOut("encipher(1)", x, Checks.libraryCipher(KEY, Checks.first(row, 16)));
        Checks.giveMessage(x, Checks.first(row, 17));
        Checks.due("encipher(1) of 17 octets", x.encipher(1), -3);
        Checks.dueOut("OUT after a refusal", x, Checks.libraryCipher(KEY, Checks.first(row, 16)));
        x.code(1, 128);
        Checks.dueOut("the message after a refusal", x, Checks.libraryCode(KEY, Checks.first(row, 17)));
    }

    private static void outKeepsItsBounds() {
        MessageCodes x = withKey(KEY);
        for (int i : new int[] {0, -1, 1, 15, 16, Integer.MIN_VALUE, Integer.MAX_VALUE}) {
            Checks.due("out(" + i + ") of a new object", Checks.outOrNothing(x, i), Checks.NOTHING_THERE);
        }
        x.code(1, 128);
        x.code(1, 32);
        byte[] code = Checks.libraryCode(KEY, new byte[0]);
        Checks.dueOut("a short row behind a long one", x, Checks.first(code, 4));
        for (int i : new int[] {5, 15, 16, Integer.MIN_VALUE, Integer.MAX_VALUE}) {
            Checks.due("out(" + i + ") of four octets", Checks.outOrNothing(x, i), Checks.NOTHING_THERE);
        }
        x.octet((byte) 1);
        x.key();
        x.keyByte(1, (byte) 1);
        x.check(1);
        x.fresh(1, 1);
        x.trip(1);
        x.may(1, 1, true);
        x.verify(1, 1, 1);
        x.install(1, 1, 1);
        Checks.dueOut("OUT after calls that answer no row", x, Checks.first(code, 4));
    }
}
