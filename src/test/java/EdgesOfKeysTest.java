/** The edges that promises 2, 3, 9 and 10 name, a test for each sentence; the sentence stands above it. */
public final class EdgesOfKeysTest {
    private static final byte[] ZEROS = new byte[16];
    private static final byte[] OTHER = Checks.hex("f0e1d2c3b4a5968778695a4b3c2d1e0f");
    private static final byte[] NEW = Checks.hex("00ff10ef20df30cf40bf50af609f708f");
    private static final int[] NO_KEYS = {0, 3, -1, -2, 16, 17, 33, 257, Integer.MIN_VALUE, Integer.MAX_VALUE};

    public static void main(String[] args) {
        noSeventeenthKey();
        firstOctetAgain();
        counterStaysWithNewOctets();
        noKeyNoOctet();
        wrappedByItself();
        countersAsEightOctets();
        equalCountersAreNotAbove();
        wrongCodeIsNotTaken();
        counterOfAnUntakenKeyIsNotKept();
        keyByteGivesTheFirstNext();
        messageIsEmptyThen();
        installNeedsBothKeys();
        countersBelowNought();
        notTwentyFourOctets();
        checkValuesWithSign();
        checkOfNoKey();
        Checks.end();
    }

    /** Two keys, the second being OTHER. */
    private static MessageCodes withKeys() {
        MessageCodes x = new MessageCodes();
        x.key();
        x.key();
        Checks.giveKey(x, 2, OTHER);
        return x;
    }

    private static int installNew(MessageCodes x, long counter) {
        Checks.giveMessage(x, Checks.wrappedKey(OTHER, NEW, counter));
        return x.install(1, 2, counter);
    }

    private static void dueEmptyMessage(String when, MessageCodes x) {
        x.code(2, 128);
        Checks.dueOut("the message " + when, x, Checks.libraryCode(OTHER, new byte[0]));
    }

    /** key: "-4 there are 16." */
    private static void noSeventeenthKey() {
        MessageCodes x = new MessageCodes();
        for (int key = 1; key <= 15; key++) {
            x.key();
        }
        Checks.due("the sixteenth", x.key(), 16);
        Checks.giveKey(x, 16, NEW);
        Checks.giveMessage(x, Checks.hex("a1b2"));
        for (int i = 0; i < 3; i++) {
            Checks.due("one more", x.key(), -4);
        }
        Checks.due("check(16) after it", x.check(16), Checks.checkValue(NEW));
        Checks.due("check(15) after it", x.check(15), Checks.checkValue(ZEROS));
        Checks.due("check(17) after it", x.check(17), 0);
        x.code(16, 128);
        Checks.dueOut("the message after it", x, Checks.libraryCode(NEW, Checks.hex("a1b2")));
    }

    /** keyByte: "from its first on, behind the last one the first again." */
    private static void firstOctetAgain() {
        MessageCodes x = withKeys();
        byte[] due = new byte[16];
        for (int i = 0; i < 50; i++) {
            due[i % 16] = (byte) (i + 200);
            x.keyByte(1, (byte) (i + 200));
            if (i % 16 == 0 || i % 16 == 1 || i % 16 == 15) {
                Checks.due("check(1) after octet " + i, x.check(1), Checks.checkValue(due));
            }
        }
        Checks.due("check(2), which goes its own round", x.check(2), Checks.checkValue(OTHER));
    }

    /** keyByte: "(Its COUNTER stays.)" */
    private static void counterStaysWithNewOctets() {
        MessageCodes x = withKeys();
        Checks.due("install 8", installNew(x, 8), 1);
        for (int i = 0; i < 33; i++) {
            x.keyByte(1, (byte) i);
        }
        Checks.due("install 8 after new octets", installNew(x, 8), 0);
        Checks.due("install 9 after new octets", installNew(x, 9), 1);
    }

    /** keyByte: "Nothing if there is no key." */
    private static void noKeyNoOctet() {
        MessageCodes x = withKeys();
        for (int key : NO_KEYS) {
            x.keyByte(key, (byte) 99);
        }
        Checks.due("check(1)", x.check(1), Checks.checkValue(ZEROS));
        Checks.due("check(2)", x.check(2), Checks.checkValue(OTHER));
        Checks.due("the next key", x.key(), 3);
        Checks.due("check(3)", x.check(3), Checks.checkValue(ZEROS));
        x.keyByte(3, (byte) 1);
        Checks.due("its first octet comes first", x.check(3), Checks.checkValue(Checks.first(new byte[] {1}, 16)));
        dueEmptyMessage("has stayed", x);
    }

    /** install: "A key comes wrapped by another one (or itself)". */
    private static void wrappedByItself() {
        MessageCodes x = withKeys();
        Checks.giveMessage(x, Checks.wrappedKey(ZEROS, NEW, 1));
        Checks.due("install(1, 1, 1)", x.install(1, 1, 1), 1);
        Checks.due("check(1)", x.check(1), Checks.checkValue(NEW));
        Checks.giveMessage(x, Checks.wrappedKey(NEW, NEW, 2));
        Checks.due("install(1, 1, 2), the same octets", x.install(1, 1, 2), 1);
        Checks.due("check(1) again", x.check(1), Checks.checkValue(NEW));
        Checks.giveMessage(x, Checks.wrappedKey(NEW, OTHER, 2));
        Checks.due("install(1, 1, 2), not above", x.install(1, 1, 2), 0);
    }

    /** install: "the counter (8 octets, the highest first)" and "8 octets 0 and the counter". */
    private static void countersAsEightOctets() {
        long[] counters = {1, 127, 128, 255, 256, 65535, 65536, 0x7fffffffL, 0x80000000L, 0xffffffffL, 1L << 32,
            (1L << 56) - 1, 1L << 56, 1L << 62, 0x7edcba9876543210L, Long.MAX_VALUE};
        MessageCodes x = withKeys();
        for (long counter : counters) {
            Checks.due("install " + counter, installNew(x, counter), 1);
            Checks.due("check(1) after " + counter, x.check(1), Checks.checkValue(NEW));
        }
        Checks.due("the highest again", installNew(x, Long.MAX_VALUE), 0);
    }

    /** install: "1 if that is so, and the counter is above the key's COUNTER", "0 otherwise". */
    private static void equalCountersAreNotAbove() {
        MessageCodes x = withKeys();
        Checks.due("install 0", installNew(x, 0), 0);
        Checks.due("check(1) after 0", x.check(1), Checks.checkValue(ZEROS));
        Checks.due("install 10", installNew(x, 10), 1);
        Checks.giveKey(x, 1, ZEROS);
        for (long counter : new long[] {10, 9, 1, 0}) {
            Checks.due("install " + counter, installNew(x, counter), 0);
            Checks.due("check(1) after " + counter, x.check(1), Checks.checkValue(ZEROS));
        }
        Checks.due("install 11", installNew(x, 11), 1);
        Checks.due("check(1) after 11", x.check(1), Checks.checkValue(NEW));
    }

    /** install: "the first 8 octets of the other key's code": each of their bits is looked at. */
    private static void wrongCodeIsNotTaken() {
        byte[] good = Checks.wrappedKey(OTHER, NEW, 3);
        MessageCodes x = withKeys();
        for (int bit = 0; bit < 64; bit++) {
            // An object is used for 512 calls at most, and a try takes 26.
            x = bit % 16 == 0 ? withKeys() : x;
            byte[] altered = good.clone();
            altered[16 + bit / 8] ^= (byte) (128 >> (bit % 8));
            Checks.giveMessage(x, altered);
            Checks.due("bit " + bit + " altered", x.install(1, 2, 3), 0);
            Checks.due("check(1) after bit " + bit, x.check(1), Checks.checkValue(ZEROS));
        }
    }

    /** install: "0 otherwise": then its COUNTER and the octet that comes next are what they were, too. */
    private static void counterOfAnUntakenKeyIsNotKept() {
        MessageCodes x = withKeys();
        x.keyByte(1, (byte) 5);
        Checks.giveMessage(x, new byte[24]);
        Checks.due("a wrong code, 1000", x.install(1, 2, 1000), 0);
        Checks.giveMessage(x, Checks.wrappedKey(OTHER, NEW, 2000));
        Checks.due("another counter's, 1000", x.install(1, 2, 1000), 0);
        Checks.giveMessage(x, Checks.wrappedKey(ZEROS, NEW, 1000));
        Checks.due("another key's, 1000", x.install(1, 2, 1000), 0);
        x.keyByte(1, (byte) 6);
        Checks.due("the second octet", x.check(1), Checks.checkValue(Checks.first(new byte[] {5, 6}, 16)));
        Checks.due("install 1", installNew(x, 1), 1);
    }

    /** install: "the octet that keyByte() gives next is the first". */
    private static void keyByteGivesTheFirstNext() {
        for (int given : new int[] {0, 1, 15, 16, 17}) {
            MessageCodes x = withKeys();
            for (int i = 0; i < given; i++) {
                x.keyByte(1, (byte) -i);
            }
            Checks.due("install after " + given + " octets", installNew(x, 1), 1);
            Checks.due("check(1), none of them left", x.check(1), Checks.checkValue(NEW));
            x.keyByte(1, (byte) 0x77);
            byte[] due = NEW.clone();
            due[0] = 0x77;
            Checks.due("check(1) with a new first octet", x.check(1), Checks.checkValue(due));
            x.keyByte(2, (byte) 0x66);
            byte[] other = OTHER.clone();
            other[0] = 0x66;
            Checks.due("check(2), whose place is its own", x.check(2), Checks.checkValue(other));
        }
    }

    /** install: "The message is empty then." */
    private static void messageIsEmptyThen() {
        MessageCodes x = withKeys();
        Checks.due("taken", installNew(x, 5), 1);
        dueEmptyMessage("after a key that was taken", x);
        Checks.due("not above", installNew(x, 5), 0);
        dueEmptyMessage("after a counter that is not above", x);
        Checks.giveMessage(x, new byte[24]);
        Checks.due("wrong", x.install(1, 2, 6), 0);
        dueEmptyMessage("after a wrong code", x);
    }

    /** install: "-1 there is no key": neither the one nor the other, before all other refusals. */
    private static void installNeedsBothKeys() {
        byte[] good = Checks.wrappedKey(OTHER, NEW, 1);
        for (int length : new int[] {0, 23, 24}) {
            MessageCodes x = withKeys();
            Checks.giveMessage(x, Checks.first(good, length));
            for (int key : NO_KEYS) {
                Checks.due("install(" + key + ", 2, 1)", x.install(key, 2, 1), -1);
                Checks.due("install(1, " + key + ", 1)", x.install(1, key, 1), -1);
                Checks.due("install(" + key + ", " + key + ", 1)", x.install(key, key, 1), -1);
                Checks.due("install(1, " + key + ", -1)", x.install(1, key, -1), -1);
                Checks.due("install(" + key + ", 2, the lowest)", x.install(key, 2, Long.MIN_VALUE), -1);
            }
            Checks.due("install(1, 2, 1) of " + length, x.install(1, 2, 1), length == 24 ? 1 : -3);
        }
    }

    /** install: "-2 the counter is below 0", whatever the message has. */
    private static void countersBelowNought() {
        MessageCodes x = withKeys();
        byte[] good = Checks.wrappedKey(OTHER, NEW, 1);
        for (int i = 0; i <= 24; i++) {
            Checks.due(i + " octets, -1", x.install(1, 2, -1), -2);
            Checks.due(i + " octets, the lowest", x.install(1, 2, Long.MIN_VALUE), -2);
            if (i < 24) {
                x.octet(good[i]);
            }
        }
        Checks.due("the message has stayed", x.install(1, 2, 1), 1);
    }

    /** install: "-3 the message has not 24 octets." */
    private static void notTwentyFourOctets() {
        MessageCodes x = withKeys();
        byte[] good = Checks.wrappedKey(OTHER, NEW, 1);
        for (int i = 0; i < 24; i++) {
            Checks.due(i + " octets", x.install(1, 2, 1), -3);
            x.octet(good[i]);
        }
        Checks.due("24 octets", x.install(1, 2, 1), 1);
        Checks.giveMessage(x, Checks.wrappedKey(OTHER, ZEROS, 2));
        for (int length = 25; length <= 300; length++) {
            x.octet((byte) 0);
            if (length < 50 || length > 290) {
                Checks.due(length + " octets", x.install(1, 2, 2), -3);
            }
        }
        Checks.due("check(1)", x.check(1), Checks.checkValue(NEW));
    }

    /** check: "the first four octets of E(key, 0), the first one the highest": below 0 and above it. */
    private static void checkValuesWithSign() {
        MessageCodes x = withKeys();
        Checks.due("check(1)", x.check(1), 0x66e94bd4);
        boolean below = false;
        boolean above = false;
        for (int i = 0; i < 100; i++) {
            byte[] key = Checks.number(0x0101010101010101L * i, 16);
            x = i % 25 == 0 ? withKeys() : x;
            Checks.giveKey(x, 1, key);
            int due = Checks.checkValue(key);
            below |= due < 0;
            above |= due > 0;
            Checks.due("check(1) of key " + i, x.check(1), due);
        }
        Checks.due("values of both signs were met", below && above ? 1 : 0, 1);
    }

    /** check: "0 if there is none." */
    private static void checkOfNoKey() {
        MessageCodes x = new MessageCodes();
        Checks.due("check(1) of a new object", x.check(1), 0);
        Checks.due("check(0) of a new object", x.check(0), 0);
        MessageCodes y = withKeys();
        for (int key : NO_KEYS) {
            Checks.due("check(" + key + ")", y.check(key), 0);
        }
    }
}
