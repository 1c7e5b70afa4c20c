/** Promises 1 to 3 and 10: a new object, key, keyByte, check. */
public final class KeysTest {
    private static final byte[] ZEROS = new byte[16];

    public static void main(String[] args) {
        newObjectHasNothing();
        keysAreNumbered();
        noKeyMoreThanSixteen();
        octetsGoRoundInEachKey();
        noKeyNothingHappens();
        checkValues();
        Checks.end();
    }

    private static void newObjectHasNothing() {
        MessageCodes x = new MessageCodes();
        Checks.due("new, check(1)", x.check(1), 0);
        Checks.due("new, code(1, 64)", x.code(1, 64), -1);
        Checks.due("new, encipher(1)", x.encipher(1), -1);
        Checks.due("new, verify(1, 1, 1)", x.verify(1, 1, 1), -1);
        Checks.due("new, install(1, 1, 1)", x.install(1, 1, 1), -1);
        Checks.due("new, may(1, 1, true)", x.may(1, 1, true), -1);
        Checks.due("new, out(0)", Checks.outOrNothing(x, 0), Checks.NOTHING_THERE);
        Checks.due("new, trip(0)", x.trip(0), 0);
        x.key();
        Checks.due("no message, encipher(1)", x.encipher(1), -3);
        x.code(1, 128);
        Checks.dueOut("the code of no message", x, Checks.libraryCode(ZEROS, new byte[0]));
    }

    private static void keysAreNumbered() {
        MessageCodes x = new MessageCodes();
        MessageCodes y = new MessageCodes();
        Checks.due("x.key()", x.key(), 1);
        Checks.due("x.key() again", x.key(), 2);
        Checks.due("y.key() of another object", y.key(), 1);
        Checks.due("y.check(2)", y.check(2), 0);
    }

    private static void noKeyMoreThanSixteen() {
        MessageCodes x = new MessageCodes();
        for (int i = 1; i <= 16; i++) {
            Checks.due("check before key " + i, x.check(i), 0);
            Checks.due("key " + i, x.key(), i);
            Checks.due("check of key " + i, x.check(i), Checks.checkValue(ZEROS));
        }
        Checks.due("key 17", x.key(), -4);
        Checks.due("key 17 again", x.key(), -4);
        Checks.due("check(16)", x.check(16), Checks.checkValue(ZEROS));
        Checks.due("check(17)", x.check(17), 0);
    }

    private static void octetsGoRoundInEachKey() {
        MessageCodes x = new MessageCodes();
        x.key();
        x.key();
        byte[] one = new byte[16];
        byte[] two = new byte[16];
        for (int i = 0; i < 40; i++) {
            byte b = (byte) (7 * i - 100);
            x.keyByte(1, b);
            one[i % 16] = b;
            Checks.due("octet " + i + " of key 1, check", x.check(1), Checks.checkValue(one));
            if (i % 3 == 0) {
                x.keyByte(2, (byte) -i);
                two[i / 3 % 16] = (byte) -i;
                Checks.due("octet " + i / 3 + " of key 2, check", x.check(2), Checks.checkValue(two));
            }
        }
    }

    private static void noKeyNothingHappens() {
        MessageCodes x = new MessageCodes();
        x.key();
        for (int key : new int[] {0, -1, 2, 16, 17, 33, Integer.MIN_VALUE, Integer.MAX_VALUE}) {
            x.keyByte(key, (byte) 5);
        }
        Checks.due("check(1)", x.check(1), Checks.checkValue(ZEROS));
        x.key();
        Checks.due("check(2)", x.check(2), Checks.checkValue(ZEROS));
        x.keyByte(2, (byte) 9);
        byte[] nine = new byte[16];
        nine[0] = 9;
        Checks.due("check(2) after its first octet", x.check(2), Checks.checkValue(nine));
    }

    private static void checkValues() {
        MessageCodes x = new MessageCodes();
        x.key();
        Checks.due("check of the key of zeros", x.check(1), 0x66e94bd4);
        Checks.giveKey(x, 1, Checks.hex("000102030405060708090a0b0c0d0e0f"));
        Checks.due("check of 00 01 .. 0f", x.check(1), 0xc6a13b37);
        Checks.giveMessage(x, Checks.hex("01"));
        x.check(1);
        x.code(1, 128);
        Checks.dueOut("check leaves the message", x,
                Checks.libraryCode(Checks.hex("000102030405060708090a0b0c0d0e0f"), new byte[] {1}));
        for (int key : new int[] {0, -1, 2, 17, Integer.MIN_VALUE, Integer.MAX_VALUE}) {
            Checks.due("check(" + key + ")", x.check(key), 0);
        }
    }
}
