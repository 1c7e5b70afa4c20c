import java.math.BigInteger;
import java.security.GeneralSecurityException;
import java.util.Arrays;
import javax.crypto.Cipher;
import javax.crypto.spec.SecretKeySpec;

/** What the tests share: counting wrong answers, feeding rows, and the library's cipher as a second opinion. */
final class Checks {
    static final int NOTHING_THERE = 1000;

    private static int wrong = 0;

    private Checks() {
    }

    static void due(String call, long got, long want) {
        if (got != want) {
            wrong++;
            System.out.println(call + " answered " + got + ", due is " + want);
        }
    }

    static void end() {
        if (wrong != 0) {
            System.out.println(wrong + " answers are not as due");
            System.exit(1);
        }
    }

    /** Octet i of OUT, or NOTHING_THERE where the due exception, and just that class, was thrown by the class itself. */
    static int outOrNothing(MessageCodes x, int i) {
        try {
            return x.out(i);
        } catch (RuntimeException e) {
            boolean due = e.getClass() == ArrayIndexOutOfBoundsException.class;
            // The machine's own exception tells the array's length; a throw statement's does not.
            boolean byMachine = e.getMessage() != null && e.getMessage().contains("out of bounds for length");
            return due && !byMachine ? NOTHING_THERE : -NOTHING_THERE;
        }
    }

    static void dueOut(String call, MessageCodes x, byte[] want) {
        for (int i = 0; i < want.length; i++) {
            due(call + ", out(" + i + ")", outOrNothing(x, i), want[i]);
        }
        due(call + ", out behind its end", outOrNothing(x, want.length), NOTHING_THERE);
        due(call + ", out(-1)", outOrNothing(x, -1), NOTHING_THERE);
    }

    static byte[] hex(String digits) {
        byte[] row = new byte[digits.length() / 2];
        for (int i = 0; i < row.length; i++) {
            row[i] = (byte) Integer.parseInt(digits.substring(2 * i, 2 * i + 2), 16);
        }
        return row;
    }

    static byte[] join(byte[]... rows) {
        int length = 0;
        for (byte[] row : rows) {
            length += row.length;
        }
        byte[] joined = new byte[length];
        int at = 0;
        for (byte[] row : rows) {
            System.arraycopy(row, 0, joined, at, row.length);
            at += row.length;
        }
        return joined;
    }

    static byte[] first(byte[] row, int length) {
        return Arrays.copyOf(row, length);
    }

    static byte[] number(long number, int octets) {
        byte[] row = new byte[octets];
        for (int i = 0; i < octets && i < 8; i++) {
            row[octets - 1 - i] = (byte) (number >>> (8 * i));
        }
        return row;
    }

    static void giveKey(MessageCodes x, int key, byte[] octets) {
        for (byte b : octets) {
            x.keyByte(key, b);
        }
    }

    static void giveMessage(MessageCodes x, byte[] row) {
        for (byte b : row) {
            x.octet(b);
        }
    }

    static byte[] libraryCipher(byte[] key, byte[] block) {
        try {
            Cipher cipher = Cipher.getInstance("AES/ECB/NoPadding");
            cipher.init(Cipher.ENCRYPT_MODE, new SecretKeySpec(key, "AES"));
            return cipher.doFinal(block);
        } catch (GeneralSecurityException e) {
            throw new IllegalStateException(e);
        }
    }

    static int checkValue(byte[] key) {
        return new BigInteger(first(libraryCipher(key, new byte[16]), 4)).intValue();
    }

    /** The code of a row with the library's cipher and big numbers. */
    static byte[] libraryCode(byte[] key, byte[] row) {
        BigInteger subkey = doubled(new BigInteger(1, libraryCipher(key, new byte[16])));
        int blocks = Math.max(1, (row.length + 15) / 16);
        byte[] padded = Arrays.copyOf(row, 16 * blocks);
        if (row.length < padded.length) {
            padded[row.length] = (byte) 128;
            subkey = doubled(subkey);
        }
        BigInteger x = BigInteger.ZERO;
        for (int i = 0; i < blocks; i++) {
            BigInteger block = new BigInteger(1, Arrays.copyOfRange(padded, 16 * i, 16 * i + 16));
            BigInteger sum = x.xor(block).xor(i == blocks - 1 ? subkey : BigInteger.ZERO);
            x = new BigInteger(1, libraryCipher(key, asBlock(sum)));
        }
        return asBlock(x);
    }

    /** A row and, behind it, the first 8 octets of the code that a sender with that key makes of it. */
    static byte[] codedRow(byte[] key, int id, long trip, long counter, byte[] row) {
        byte[] all = join(number(id, 1), number(trip, 4), number(counter, 8), row);
        return join(row, first(libraryCode(key, all), 8));
    }

    /** The 24 octets with which a key comes wrapped by another one. */
    static byte[] wrappedKey(byte[] other, byte[] key, long counter) {
        byte[] mask = libraryCipher(other, number(counter, 16));
        byte[] row = new byte[16];
        for (int i = 0; i < 16; i++) {
            row[i] = (byte) (key[i] ^ mask[i]);
        }
        return join(row, first(libraryCode(other, join(number(counter, 8), row)), 8));
    }

    private static BigInteger doubled(BigInteger n) {
        BigInteger moved = n.shiftLeft(1);
        return moved.testBit(128) ? moved.clearBit(128).xor(BigInteger.valueOf(135)) : moved;
    }

    static byte[] asBlock(BigInteger n) {
        byte[] all = n.toByteArray();
        byte[] block = new byte[16];
        for (int i = 0; i < 16 && i < all.length; i++) {
            block[15 - i] = all[all.length - 1 - i];
        }
        return block;
    }
}
