/** Promise 9: install. */
public final class InstallTest {
    private static final byte[] OTHER = Checks.hex("f0e1d2c3b4a5968778695a4b3c2d1e0f");
    private static final byte[] NEW = Checks.hex("00ff10ef20df30cf40bf50af609f708f");

    public static void main(String[] args) {
        keysComeWrapped();
        keyWrapsItself();
        countersMustRise();
        alteredKeysAreNotTaken();
        refusalsChangeNothing();
        nextOctetIsTheFirst();
        Checks.end();
    }

    private static MessageCodes withKeys() {
        MessageCodes x = new MessageCodes();
        x.key();
        x.key();
        Checks.giveKey(x, 2, OTHER);
        return x;
    }

    private static void keysComeWrapped() {
        for (long counter : new long[] {1, 255, 0x0102030405060708L, Long.MAX_VALUE}) {
            MessageCodes x = withKeys();
            Checks.giveMessage(x, Checks.wrappedKey(OTHER, NEW, counter));
            Checks.due("install(1, 2, " + counter + ")", x.install(1, 2, counter), 1);
            Checks.due("check(1)", x.check(1), Checks.checkValue(NEW));
            Checks.due("check(2)", x.check(2), Checks.checkValue(OTHER));
            x.code(1, 128);
            Checks.dueOut("the message is empty, under the new key", x, Checks.libraryCode(NEW, new byte[0]));
        }
    }

    private static void keyWrapsItself() {
        MessageCodes x = withKeys();
        Checks.giveMessage(x, Checks.wrappedKey(OTHER, NEW, 4));
        Checks.due("install(2, 2, 4)", x.install(2, 2, 4), 1);
        Checks.due("check(2)", x.check(2), Checks.checkValue(NEW));
        Checks.giveMessage(x, Checks.wrappedKey(OTHER, OTHER, 5));
        Checks.due("wrapped by the old one", x.install(2, 2, 5), 0);
        Checks.giveMessage(x, Checks.wrappedKey(NEW, OTHER, 5));
        Checks.due("wrapped by the new one", x.install(2, 2, 5), 1);
        Checks.due("check(2) again", x.check(2), Checks.checkValue(OTHER));
    }

    private static void countersMustRise() {
        MessageCodes x = withKeys();
        long[] counters = {0, 3, 3, 2, 4, 0, Long.MAX_VALUE, Long.MAX_VALUE};
        int[] answers = {0, 1, 0, 0, 1, 0, 1, 0};
        byte[] held = new byte[16];
        for (int i = 0; i < counters.length; i++) {
            byte[] key = new byte[16];
            key[i] = (byte) (i + 1);
            Checks.giveMessage(x, Checks.wrappedKey(OTHER, key, counters[i]));
            Checks.due("install " + i, x.install(1, 2, counters[i]), answers[i]);
            held = answers[i] == 1 ? key : held;
            Checks.due("check(1) after install " + i, x.check(1), Checks.checkValue(held));
            Checks.due("the message is empty after install " + i, x.install(1, 2, 9), -3);
        }
        Checks.giveKey(x, 1, NEW);
        Checks.giveMessage(x, Checks.wrappedKey(OTHER, NEW, 5));
        Checks.due("keyByte leaves the COUNTER", x.install(1, 2, 5), 0);
        Checks.giveMessage(x, Checks.wrappedKey(OTHER, NEW, 1));
        Checks.due("the other key has a COUNTER of its own", x.install(2, 2, 1), 1);
    }

    private static void alteredKeysAreNotTaken() {
        byte[] good = Checks.wrappedKey(OTHER, NEW, 7);
        MessageCodes x = withKeys();
        for (int i = 0; i < good.length; i++) {
            // Every call counts towards the 512 that an object is used for.
            if (i == 12) {
                x = withKeys();
            }
            byte[] altered = good.clone();
            altered[i] ^= (byte) (128 >> (i % 8));
            Checks.giveMessage(x, altered);
            Checks.due("octet " + i + " altered", x.install(1, 2, 7), 0);
            Checks.due("check(1)", x.check(1), Checks.checkValue(new byte[16]));
        }
        Checks.giveMessage(x, good);
        Checks.due("another counter", x.install(1, 2, 8), 0);
        Checks.giveMessage(x, good);
        Checks.due("another wrapping key", x.install(1, 1, 7), 0);
        Checks.giveMessage(x, good);
        Checks.due("as it was wrapped", x.install(1, 2, 7), 1);
    }

    private static void refusalsChangeNothing() {
        byte[] good = Checks.wrappedKey(OTHER, NEW, 7);
        MessageCodes x = withKeys();
        Checks.giveMessage(x, Checks.first(good, 23));
        Checks.due("23 octets", x.install(1, 2, 7), -3);
        x.octet(good[23]);
        for (int number : new int[] {0, -1, 3, 17, Integer.MIN_VALUE, Integer.MAX_VALUE}) {
            Checks.due("install(" + number + ", 2, 7)", x.install(number, 2, 7), -1);
            Checks.due("install(1, " + number + ", 7)", x.install(1, number, 7), -1);
            Checks.due("install(1, " + number + ", -7)", x.install(1, number, -7), -1);
        }
        Checks.due("install(1, 2, -1)", x.install(1, 2, -1), -2);
        Checks.due("install(1, 2, the lowest)", x.install(1, 2, Long.MIN_VALUE), -2);
        Checks.due("check(1)", x.check(1), Checks.checkValue(new byte[16]));
        Checks.due("24 octets", x.install(1, 2, 7), 1);
        Checks.due("no octets, counter below 0", x.install(1, 2, -1), -2);
        Checks.due("no octets", x.install(1, 2, 8), -3);
        Checks.giveMessage(x, Checks.join(Checks.wrappedKey(OTHER, NEW, 8), new byte[1]));
        Checks.due("25 octets", x.install(1, 2, 8), -3);
        x.code(2, 128);
        Checks.dueOut("the message has stayed", x,
                Checks.libraryCode(OTHER, Checks.join(Checks.wrappedKey(OTHER, NEW, 8), new byte[1])));
    }

    private static void nextOctetIsTheFirst() {
        MessageCodes x = withKeys();
        x.keyByte(1, (byte) 1);
        x.keyByte(1, (byte) 2);
        Checks.giveMessage(x, new byte[24]);
        Checks.due("not taken", x.install(1, 2, 1), 0);
        x.keyByte(1, (byte) 3);
        Checks.due("goes on at the third", x.check(1), Checks.checkValue(Checks.first(Checks.hex("010203"), 16)));
        Checks.giveMessage(x, Checks.wrappedKey(OTHER, NEW, 1));
        Checks.due("taken", x.install(1, 2, 1), 1);
        x.keyByte(1, (byte) 77);
        byte[] changed = NEW.clone();
        changed[0] = 77;
        Checks.due("begins with the first again", x.check(1), Checks.checkValue(changed));
    }
}
