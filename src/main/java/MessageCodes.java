import java.util.Arrays;

/** Codes for rows that nobody may alter or send again; DOC.md says what each call promises, and what the terms mean. */
public final class MessageCodes {
    private static final int UNKNOWN_NUMBER = -1;
    private static final int OUTSIDE_RANGE = -2;
    private static final int NOT_IN_THIS_STATE = -3;
    private static final int NO_ROOM = -4;

    private static final int NO = 0;
    private static final int YES = 1;
    private static final int SYNC_NEEDED = 2;

    private static final int BLOCK_OCTETS = 16;
    private static final int MOST_KEYS = 16;
    private static final int MOST_SENDERS = 64;
    private static final int MOST_MESSAGE_OCTETS = 300;
    private static final int LEAST_CODE_BITS = 32;
    private static final int MOST_CODE_BITS = 128;
    private static final int CUT_CODE_OCTETS = 8;
    private static final int WRAPPED_KEY_OCTETS = BLOCK_OCTETS + CUT_CODE_OCTETS;
    private static final int IDENTITY_OCTETS = 1;
    private static final int TRIP_OCTETS = 4;
    private static final int COUNTER_OCTETS = 8;
    private static final int MOST_STEPS_AHEAD = 64;
    private static final int BAD_TRIES_THAT_BLOCK = 5;
    private static final long HIGHEST_COUNTER = 1L << 62;
    private static final long HIGHEST_TRIP = 4294967295L;

    private static final int ROUNDS = 10;
    private static final int ROUND_KEY_OCTETS = BLOCK_OCTETS * (ROUNDS + 1);

    /** S(x) of the document for every octet x. */
    private static final int[] SUBSTITUTES = {
        99, 124, 119, 123, 242, 107, 111, 197, 48, 1, 103, 43, 254, 215, 171, 118,
        202, 130, 201, 125, 250, 89, 71, 240, 173, 212, 162, 175, 156, 164, 114, 192,
        183, 253, 147, 38, 54, 63, 247, 204, 52, 165, 229, 241, 113, 216, 49, 21,
        4, 199, 35, 195, 24, 150, 5, 154, 7, 18, 128, 226, 235, 39, 178, 117,
        9, 131, 44, 26, 27, 110, 90, 160, 82, 59, 214, 179, 41, 227, 47, 132,
        83, 209, 0, 237, 32, 252, 177, 91, 106, 203, 190, 57, 74, 76, 88, 207,
        208, 239, 170, 251, 67, 77, 51, 133, 69, 249, 2, 127, 80, 60, 159, 168,
        81, 163, 64, 143, 146, 157, 56, 245, 188, 182, 218, 33, 16, 255, 243, 210,
        205, 12, 19, 236, 95, 151, 68, 23, 196, 167, 126, 61, 100, 93, 25, 115,
        96, 129, 79, 220, 34, 42, 144, 136, 70, 238, 184, 20, 222, 94, 11, 219,
        224, 50, 58, 10, 73, 6, 36, 92, 194, 211, 172, 98, 145, 149, 228, 121,
        231, 200, 55, 109, 141, 213, 78, 169, 108, 86, 244, 234, 101, 122, 174, 8,
        186, 120, 37, 46, 28, 166, 180, 198, 232, 221, 116, 31, 75, 189, 139, 138,
        112, 62, 181, 102, 72, 3, 246, 14, 97, 53, 87, 185, 134, 193, 29, 158,
        225, 248, 152, 17, 105, 217, 142, 148, 155, 30, 135, 233, 206, 85, 40, 223,
        140, 161, 137, 13, 191, 230, 66, 104, 65, 153, 45, 15, 176, 84, 187, 22
    };

    private final Key[] keys = new Key[MOST_KEYS];
    private int keyCount;
    private final Sender[] senders = new Sender[MOST_SENDERS];
    private long currentTrip;
    private final int[] message = new int[MOST_MESSAGE_OCTETS];
    private int messageLength;
    private final int[] outRow = new int[BLOCK_OCTETS];
    private int outLength;
    private final int[] block = new int[BLOCK_OCTETS];
    private final BlockCipher cipher = new BlockCipher();
    private final Coder coder = new Coder(cipher);

    public MessageCodes() {
        for (int i = 0; i < MOST_SENDERS; i++) {
            senders[i] = new Sender(i + 1);
        }
    }

    public int key() {
        if (keyCount >= MOST_KEYS) {
            return NO_ROOM;
        }
        keys[keyCount] = new Key();
        keyCount++;
        return keyCount;
    }

    public void keyByte(int key, byte b) {
        Key changed = findKey(key);
        if (changed != null) {
            changed.putNext(b & 255);
        }
    }

    public void octet(byte b) {
        if (messageLength < MOST_MESSAGE_OCTETS) {
            message[messageLength] = b & 255;
            messageLength++;
        }
    }

    public int code(int key, int bits) {
        Key used = findKey(key);
        if (used == null) {
            return UNKNOWN_NUMBER;
        }
        if (bits < LEAST_CODE_BITS || bits > MOST_CODE_BITS) {
            return OUTSIDE_RANGE;
        }
        coder.begin(used);
        coder.addOctets(message, messageLength);
        coder.finish();
        emptyMessage();
        answerBits(coder.result, bits);
        return outLength;
    }

    public byte out(int i) throws ArrayIndexOutOfBoundsException {
        if (i < 0 || i >= outLength) {
            throw new ArrayIndexOutOfBoundsException("no such octet of OUT");
        }
        return (byte) outRow[i];
    }

    public int fresh(int id, long counter) {
        Sender sender = findSender(id);
        if (sender == null) {
            return UNKNOWN_NUMBER;
        }
        if (counter < 0 || counter > HIGHEST_COUNTER) {
            return OUTSIDE_RANGE;
        }
        if (counter <= sender.counter) {
            return NO;
        }
        sender.counter = counter;
        return YES;
    }

    public int verify(int key, int id, int cut) {
        Key used = findKey(key);
        Sender sender = findSender(id);
        if (used == null || sender == null) {
            return UNKNOWN_NUMBER;
        }
        if (cut < 0 || cut > 255) {
            return OUTSIDE_RANGE;
        }
        if (!sender.mayUse(key) || sender.isBlocked() || messageLength < CUT_CODE_OCTETS) {
            return NOT_IN_THIS_STATE;
        }
        int ahead = sender.stepsTo(cut);
        long counter = sender.counter + ahead;
        int answer;
        if (ahead == 0) {
            answer = NO;
        } else if (ahead > MOST_STEPS_AHEAD || counter > HIGHEST_COUNTER) {
            answer = SYNC_NEEDED;
        } else {
            answer = sender.endTry(counter, isCodedRow(used, sender, counter));
        }
        emptyMessage();
        return answer;
    }

    public int install(int key, int with, long counter) {
        Key installed = findKey(key);
        Key other = findKey(with);
        if (installed == null || other == null) {
            return UNKNOWN_NUMBER;
        }
        if (counter < 0) {
            return OUTSIDE_RANGE;
        }
        if (messageLength != WRAPPED_KEY_OCTETS) {
            return NOT_IN_THIS_STATE;
        }
        boolean taken = counter > installed.counter && isWrappedKey(other, counter);
        if (taken) {
            unwrap(installed, other, counter);
        }
        emptyMessage();
        return taken ? YES : NO;
    }

    public int check(int key) {
        Key used = findKey(key);
        if (used == null) {
            return 0;
        }
        Arrays.fill(block, 0);
        cipher.useKey(used);
        cipher.apply(block);
        return (block[0] << 24) | (block[1] << 16) | (block[2] << 8) | block[3];
    }

    public int trip(long n) {
        if (n < 0 || n > HIGHEST_TRIP) {
            return OUTSIDE_RANGE;
        }
        if (n <= currentTrip) {
            return NO;
        }
        currentTrip = n;
        for (int id = 1; id <= MOST_SENDERS; id++) {
            Sender sender = findSender(id);
            if (sender != null) {
                sender.beginTrip();
            }
        }
        return YES;
    }

    public int encipher(int key) {
        Key used = findKey(key);
        if (used == null) {
            return UNKNOWN_NUMBER;
        }
        if (messageLength != BLOCK_OCTETS) {
            return NOT_IN_THIS_STATE;
        }
        for (int i = 0; i < BLOCK_OCTETS; i++) {
            block[i] = message[i];
        }
        cipher.useKey(used);
        cipher.apply(block);
        emptyMessage();
        answerBits(block, MOST_CODE_BITS);
        return outLength;
    }

    public int may(int id, int key, boolean on) {
        Sender sender = findSender(id);
        if (sender == null || findKey(key) == null) {
            return UNKNOWN_NUMBER;
        }
        sender.allow(key, on);
        return sender.countOfKeys();
    }

    /** Null if there is no key of that number. */
    private Key findKey(int number) {
        return number >= 1 && number <= keyCount && number <= MOST_KEYS ? keys[number - 1] : null;
    }

    /** Null if there is no sender of that identity. */
    private Sender findSender(int id) {
        return id >= 1 && id <= MOST_SENDERS ? senders[id - 1] : null;
    }

    private void emptyMessage() {
        messageLength = 0;
    }

    /** OUT becomes the first bits of a block; bits are 1 to 128. */
    private void answerBits(int[] source, int bits) {
        for (int i = 0; i < BLOCK_OCTETS; i++) {
            int kept = Math.max(0, Math.min(8, bits - 8 * i));
            outRow[i] = source[i] & (65280 >> kept);
        }
        outLength = (bits + 7) / 8;
    }

    private boolean isCodedRow(Key used, Sender sender, long counter) {
        int rowLength = messageLength - CUT_CODE_OCTETS;
        coder.begin(used);
        coder.addNumber(sender.identity, IDENTITY_OCTETS);
        coder.addNumber(currentTrip, TRIP_OCTETS);
        coder.addNumber(counter, COUNTER_OCTETS);
        coder.addOctets(message, rowLength);
        coder.finish();
        return coder.beginsLike(message, rowLength);
    }

    private boolean isWrappedKey(Key other, long counter) {
        coder.begin(other);
        coder.addNumber(counter, COUNTER_OCTETS);
        coder.addOctets(message, BLOCK_OCTETS);
        coder.finish();
        return coder.beginsLike(message, BLOCK_OCTETS);
    }

    private void unwrap(Key installed, Key other, long counter) {
        Arrays.fill(block, 0);
        putNumberAtEnd(block, counter);
        // A key may wrap itself: its old octets are in the cipher before the new ones are put.
        cipher.useKey(other);
        cipher.apply(block);
        for (int i = 0; i < BLOCK_OCTETS; i++) {
            installed.octets[i] = message[i] ^ block[i];
        }
        installed.next = 0;
        installed.counter = counter;
    }

    private static void putNumberAtEnd(int[] target, long number) {
        for (int i = 0; i < COUNTER_OCTETS; i++) {
            target[BLOCK_OCTETS - 1 - i] = (int) ((number >> (8 * i)) & 255);
        }
    }

    /** An octet times t, by t^8 = t^4 + t^3 + t + 1. */
    private static int timesT(int octet) {
        int moved = octet << 1;
        return (octet & 128) != 0 ? (moved ^ 27) & 255 : moved & 255;
    }

    private static int substitute(int octet) {
        return SUBSTITUTES[octet & 255];
    }

    private static final class Key {
        final int[] octets = new int[BLOCK_OCTETS];
        int next;
        long counter;

        void putNext(int octet) {
            if (next < 0 || next >= BLOCK_OCTETS) {
                next = 0;
            }
            octets[next] = octet;
            next++;
        }
    }

    private static final class Sender {
        final int identity;
        long counter;
        private int badTries;
        /** Bit k is set if the sender MAY use key k. */
        private int allowedKeys;

        Sender(int identity) {
            this.identity = identity;
        }

        boolean isBlocked() {
            return badTries >= BAD_TRIES_THAT_BLOCK;
        }

        /** How far the next counter with those lowest eight bits is above the last one. */
        int stepsTo(int cut) {
            return (cut - (int) (counter & 255)) & 255;
        }

        int endTry(long tried, boolean good) {
            if (!good) {
                badTries++;
                return NO;
            }
            counter = tried;
            // Only bad tries one after the other block a sender, so a good one ends their row.
            badTries = 0;
            return YES;
        }

        boolean mayUse(int number) {
            return (allowedKeys & (1 << number)) != 0;
        }

        void allow(int number, boolean on) {
            if (on) {
                allowedKeys |= 1 << number;
            } else {
                allowedKeys &= ~(1 << number);
            }
        }

        int countOfKeys() {
            return Integer.bitCount(allowedKeys);
        }

        void beginTrip() {
            counter = 0;
            badTries = 0;
        }
    }

    /** E(K, X). Octet 4 c + r of a block stands in row r and column c. */
    private static final class BlockCipher {
        private final int[] roundKeys = new int[ROUND_KEY_OCTETS];
        private final int[] turned = new int[BLOCK_OCTETS];

        void useKey(Key key) {
            for (int i = 0; i < BLOCK_OCTETS; i++) {
                roundKeys[i] = key.octets[i];
            }
            int power = 1;
            for (int at = BLOCK_OCTETS; at < ROUND_KEY_OCTETS; at += BLOCK_OCTETS) {
                putFirstWord(at, power);
                for (int i = at + 4; i < at + BLOCK_OCTETS; i++) {
                    roundKeys[i] = roundKeys[i - BLOCK_OCTETS] ^ roundKeys[i - 4];
                }
                power = timesT(power);
            }
        }

        /** The word of a round key whose number is divisible by 4; its first octet stands at the place told. */
        private void putFirstWord(int at, int power) {
            for (int r = 0; r < 4; r++) {
                int beside = roundKeys[at - 4 + (r + 1) % 4];
                roundKeys[at + r] = roundKeys[at - BLOCK_OCTETS + r] ^ substitute(beside);
            }
            roundKeys[at] ^= power;
        }

        void apply(int[] state) {
            addRoundKey(state, 0);
            for (int round = 1; round <= ROUNDS; round++) {
                substituteAndTurnRows(state);
                if (round < ROUNDS) {
                    mixColumns(state);
                }
                addRoundKey(state, round);
            }
        }

        private void addRoundKey(int[] state, int round) {
            for (int i = 0; i < BLOCK_OCTETS; i++) {
                state[i] ^= roundKeys[BLOCK_OCTETS * round + i];
            }
        }

        private void substituteAndTurnRows(int[] state) {
            for (int i = 0; i < BLOCK_OCTETS; i++) {
                int row = i % 4;
                turned[i] = substitute(state[(i + 4 * row) % BLOCK_OCTETS]);
            }
            for (int i = 0; i < BLOCK_OCTETS; i++) {
                state[i] = turned[i];
            }
        }

        private static void mixColumns(int[] state) {
            for (int at = 0; at < BLOCK_OCTETS; at += 4) {
                int a = state[at];
                int b = state[at + 1];
                int c = state[at + 2];
                int d = state[at + 3];
                int sum = a ^ b ^ c ^ d;
                // 2a + 3b + c + d is a + (a + b + c + d) + 2 (a + b), and so on round the column.
                state[at] = a ^ sum ^ timesT(a ^ b);
                state[at + 1] = b ^ sum ^ timesT(b ^ c);
                state[at + 2] = c ^ sum ^ timesT(c ^ d);
                state[at + 3] = d ^ sum ^ timesT(d ^ a);
            }
        }
    }

    /** C(K, M), the row M being told piece by piece: begin, add what it has, finish. */
    private static final class Coder {
        private final BlockCipher cipher;
        private final int[] subkey = new int[BLOCK_OCTETS];
        /** X, with the octets of the block that is being collected added to it already; the code at the end. */
        final int[] result = new int[BLOCK_OCTETS];
        private int filled;

        Coder(BlockCipher cipher) {
            this.cipher = cipher;
        }

        void begin(Key key) {
            cipher.useKey(key);
            Arrays.fill(result, 0);
            filled = 0;
        }

        void addOctets(int[] row, int length) {
            for (int i = 0; i < length && i < row.length; i++) {
                add(row[i]);
            }
        }

        void addNumber(long number, int octets) {
            for (int i = octets - 1; i >= 0; i--) {
                add((int) ((number >> (8 * i)) & 255));
            }
        }

        private void add(int octet) {
            // A whole block waits for the next octet, for the last block is treated in another way.
            if (filled >= BLOCK_OCTETS) {
                cipher.apply(result);
                filled = 0;
            }
            result[filled] ^= octet;
            filled++;
        }

        void finish() {
            Arrays.fill(subkey, 0);
            cipher.apply(subkey);
            doubleSubkey();
            if (filled < BLOCK_OCTETS) {
                result[filled] ^= 128;
                doubleSubkey();
            }
            for (int i = 0; i < BLOCK_OCTETS; i++) {
                result[i] ^= subkey[i];
            }
            cipher.apply(result);
        }

        private void doubleSubkey() {
            int carried = (subkey[0] & 128) != 0 ? 135 : 0;
            for (int i = 0; i < BLOCK_OCTETS - 1; i++) {
                subkey[i] = ((subkey[i] << 1) | (subkey[i + 1] >> 7)) & 255;
            }
            subkey[BLOCK_OCTETS - 1] = ((subkey[BLOCK_OCTETS - 1] << 1) & 255) ^ carried;
        }

        /** Are the code's first 8 octets those of the row from a place on? */
        boolean beginsLike(int[] row, int from) {
            if (from < 0 || from > row.length - CUT_CODE_OCTETS) {
                return false;
            }
            for (int i = 0; i < CUT_CODE_OCTETS; i++) {
                if (result[i] != row[from + i]) {
                    return false;
                }
            }
            return true;
        }
    }
}
