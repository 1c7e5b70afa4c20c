import java.util.ArrayList;
import java.util.HashMap;
import java.util.List;
import java.util.Map;

/**
 * "REFUSALS change nothing and answer, the first that fits". Of two objects that were made in the same way one gets
 * the refused call; whatever is looked at then, they answer alike.
 */
public final class RefusalsTest {
    private interface Call {
        int on(MessageCodes x);
    }

    private interface Look {
        void at(MessageCodes x, List<Integer> seen);
    }

    private static final long HIGHEST = 1L << 62;
    private static final int LOWEST_INT = Integer.MIN_VALUE;
    private static final int HIGHEST_INT = Integer.MAX_VALUE;
    private static final byte[] FIRST = Checks.hex("2b7e151628aed2a6abf7158809cf4f3c");
    private static final byte[] SECOND = Checks.hex("00112233445566778899aabbccddeeff");
    private static final byte[] THIRD = Checks.hex("f0e1d2c3b4a5968778695a4b3c2d1e0f");
    /** Sender 1's counter, and cuts that are one ahead, not ahead, and too far ahead. */
    private static final int HELD = 700;
    private static final int NEXT = 701 & 255;
    private static final int SAME = 700 & 255;
    private static final int FAR = 765 & 255;

    private static final Look[] LOOKS = {
        RefusalsTest::lookAtRows, RefusalsTest::lookAtKeys,
        (x, seen) -> lookAtInstalling(x, seen, 1, 0),
        (x, seen) -> lookAtInstalling(x, seen, 2, 5),
        (x, seen) -> lookAtInstalling(x, seen, 3, 0),
        RefusalsTest::lookAtTrip, RefusalsTest::lookAtCounters,
        (x, seen) -> lookAtBadTries(x, seen, 1, NEXT),
        (x, seen) -> lookAtBadTries(x, seen, 2, 1),
        RefusalsTest::lookAtLists};

    private static final Map<String, List<Integer>> UNTOUCHED = new HashMap<>();
    private static final byte[] INSTALLED = Checks.wrappedKey(THIRD, SECOND, 5);

    public static void main(String[] args) {
        for (int length : new int[] {0, 7, 8, 15, 16, 17, 23, 24, 25, 300}) {
            unknownNumbers(length);
            outsideRanges(length);
            notInThisState(length);
            answersThatChangeNothing(length);
        }
        noRoom();
        Checks.end();
    }

    /** Something of everything: 3 keys, trip 9, sender 1 with 3 bad tries, sender 2 BLOCKED, and an OUT of 5 octets. */
    private static MessageCodes made(int messageLength) {
        MessageCodes x = new MessageCodes();
        x.key();
        x.key();
        x.key();
        Checks.giveKey(x, 1, FIRST);
        Checks.giveKey(x, 3, THIRD);
        Checks.giveMessage(x, INSTALLED);
        Checks.due("install(2, 3, 5)", x.install(2, 3, 5), 1);
        x.keyByte(2, SECOND[0]);
        x.keyByte(2, SECOND[1]);
        x.trip(9);
        x.fresh(1, HELD);
        x.fresh(64, HIGHEST);
        x.may(1, 1, true);
        x.may(1, 3, true);
        x.may(2, 1, true);
        x.may(64, 2, true);
        tryBad(x, 1, NEXT, 3);
        tryBad(x, 2, 1, 5);
        x.octet((byte) 1);
        x.code(1, 40);
        for (int i = 0; i < messageLength; i++) {
            x.octet((byte) (3 * i + 1));
        }
        return x;
    }

    private static void tryBad(MessageCodes x, int id, int cut, int many) {
        for (int i = 0; i < many; i++) {
            Checks.giveMessage(x, new byte[8]);
            x.verify(1, id, cut);
        }
    }

    private static void unchanged(String name, int length, int due, Call call) {
        for (int i = 0; i < LOOKS.length; i++) {
            MessageCodes x = made(length);
            Checks.due(name + ", " + length + " octets", call.on(x), due);
            List<Integer> seen = new ArrayList<>();
            LOOKS[i].at(x, seen);
            int look = i;
            List<Integer> want = UNTOUCHED.computeIfAbsent(length + " " + i, none -> lookUntouched(length, look));
            Checks.due(name + ", " + length + " octets, look " + i + " sees no change", seen.equals(want) ? 1 : 0, 1);
        }
    }

    private static List<Integer> lookUntouched(int length, int look) {
        List<Integer> seen = new ArrayList<>();
        LOOKS[look].at(made(length), seen);
        return seen;
    }

    private static void lookAtRows(MessageCodes x, List<Integer> seen) {
        for (int i = -1; i <= 16; i++) {
            seen.add(Checks.outOrNothing(x, i));
        }
        seen.add(x.code(1, 128));
        for (int i = 0; i < 16; i++) {
            seen.add(Checks.outOrNothing(x, i));
        }
    }

    private static void lookAtKeys(MessageCodes x, List<Integer> seen) {
        for (int key = 1; key <= 3; key++) {
            seen.add(x.check(key));
            x.keyByte(key, (byte) 0x5a);
            seen.add(x.check(key));
        }
        seen.add(x.key());
        seen.add(x.check(4));
        x.keyByte(4, (byte) 0x5a);
        seen.add(x.check(4));
    }

    private static void lookAtInstalling(MessageCodes x, List<Integer> seen, int key, long counter) {
        x.code(1, 32);
        for (long told = counter; told <= counter + 1; told++) {
            Checks.giveMessage(x, Checks.wrappedKey(THIRD, SECOND, told));
            seen.add(x.install(key, 3, told));
        }
    }

    private static void lookAtTrip(MessageCodes x, List<Integer> seen) {
        seen.add(x.trip(9));
        seen.add(x.trip(10));
    }

    private static void lookAtCounters(MessageCodes x, List<Integer> seen) {
        for (int id : new int[] {2, 3, 63}) {
            seen.add(x.fresh(id, 0));
            seen.add(x.fresh(id, 1));
        }
        seen.add(x.fresh(1, HELD));
        seen.add(x.fresh(1, HELD + 1));
        seen.add(x.fresh(64, HIGHEST - 1));
        seen.add(x.fresh(64, HIGHEST));
    }

    private static void lookAtBadTries(MessageCodes x, List<Integer> seen, int id, int cut) {
        x.code(1, 32);
        for (int i = 0; i < 4; i++) {
            Checks.giveMessage(x, new byte[8]);
            seen.add(x.verify(1, id, cut));
        }
    }

    private static void lookAtLists(MessageCodes x, List<Integer> seen) {
        for (int id : new int[] {1, 2, 3, 64}) {
            for (int key = 1; key <= 3; key++) {
                seen.add(x.may(id, key, false));
            }
        }
    }

    private static void unknownNumbers(int length) {
        for (int key : new int[] {0, 4, -1, 17, LOWEST_INT, HIGHEST_INT}) {
            unchanged("code(" + key + ", 64)", length, -1, x -> x.code(key, 64));
            unchanged("code(" + key + ", 31)", length, -1, x -> x.code(key, 31));
            unchanged("verify(" + key + ", 1, 1)", length, -1, x -> x.verify(key, 1, NEXT));
            unchanged("verify(" + key + ", 1, 256)", length, -1, x -> x.verify(key, 1, 256));
            unchanged("install(" + key + ", 3, 9)", length, -1, x -> x.install(key, 3, 9));
            unchanged("install(1, " + key + ", 9)", length, -1, x -> x.install(1, key, 9));
            unchanged("install(1, " + key + ", -9)", length, -1, x -> x.install(1, key, -9));
            unchanged("encipher(" + key + ")", length, -1, x -> x.encipher(key));
            unchanged("may(1, " + key + ", true)", length, -1, x -> x.may(1, key, true));
            unchanged("may(1, " + key + ", false)", length, -1, x -> x.may(1, key, false));
            unchanged("keyByte(" + key + ", 1)", length, 0, x -> keyByte(x, key));
            unchanged("check(" + key + ")", length, 0, x -> x.check(key));
        }
        for (int id : new int[] {0, 65, -1, LOWEST_INT, HIGHEST_INT}) {
            unchanged("fresh(" + id + ", 800)", length, -1, x -> x.fresh(id, 800));
            unchanged("fresh(" + id + ", -1)", length, -1, x -> x.fresh(id, -1));
            unchanged("verify(1, " + id + ", 1)", length, -1, x -> x.verify(1, id, 1));
            unchanged("verify(1, " + id + ", -1)", length, -1, x -> x.verify(1, id, -1));
            unchanged("may(" + id + ", 1, true)", length, -1, x -> x.may(id, 1, true));
            unchanged("may(" + id + ", 1, false)", length, -1, x -> x.may(id, 1, false));
        }
    }

    private static int keyByte(MessageCodes x, int key) {
        x.keyByte(key, (byte) 1);
        return 0;
    }

    private static void outsideRanges(int length) {
        for (int bits : new int[] {31, 129, 0, -1, LOWEST_INT, HIGHEST_INT}) {
            unchanged("code(1, " + bits + ")", length, -2, x -> x.code(1, bits));
        }
        for (long counter : new long[] {-1, HIGHEST + 1, Long.MIN_VALUE, Long.MAX_VALUE}) {
            unchanged("fresh(1, " + counter + ")", length, -2, x -> x.fresh(1, counter));
        }
        for (int cut : new int[] {-1, 256, LOWEST_INT, HIGHEST_INT}) {
            unchanged("verify(1, 1, " + cut + ")", length, -2, x -> x.verify(1, 1, cut));
            unchanged("verify(1, 2, " + cut + "), BLOCKED", length, -2, x -> x.verify(1, 2, cut));
            unchanged("verify(1, 3, " + cut + "), may not", length, -2, x -> x.verify(1, 3, cut));
        }
        for (long counter : new long[] {-1, Long.MIN_VALUE}) {
            unchanged("install(2, 3, " + counter + ")", length, -2, x -> x.install(2, 3, counter));
            unchanged("install(3, 3, " + counter + ")", length, -2, x -> x.install(3, 3, counter));
        }
        for (long n : new long[] {-1, 4294967296L, Long.MIN_VALUE, Long.MAX_VALUE}) {
            unchanged("trip(" + n + ")", length, -2, x -> x.trip(n));
        }
    }

    private static void notInThisState(int length) {
        for (int cut : new int[] {0, NEXT, SAME, FAR, 255}) {
            unchanged("verify(2, 1, " + cut + "), may not", length, -3, x -> x.verify(2, 1, cut));
            unchanged("verify(1, 3, " + cut + "), may not", length, -3, x -> x.verify(1, 3, cut));
            unchanged("verify(1, 2, " + cut + "), BLOCKED", length, -3, x -> x.verify(1, 2, cut));
            if (length < 8) {
                unchanged("verify(1, 1, " + cut + "), short", length, -3, x -> x.verify(1, 1, cut));
                unchanged("verify(2, 64, " + cut + "), short", length, -3, x -> x.verify(2, 64, cut));
            }
        }
        if (length != 24) {
            unchanged("install(2, 3, 6)", length, -3, x -> x.install(2, 3, 6));
            unchanged("install(2, 3, 5), not above", length, -3, x -> x.install(2, 3, 5));
            unchanged("install(3, 3, 0)", length, -3, x -> x.install(3, 3, 0));
        }
        if (length != 16) {
            unchanged("encipher(1)", length, -3, x -> x.encipher(1));
            unchanged("encipher(3)", length, -3, x -> x.encipher(3));
        }
    }

    /** No refusals, but no more than an answer either. */
    private static void answersThatChangeNothing(int length) {
        unchanged("fresh(1, 700)", length, 0, x -> x.fresh(1, HELD));
        unchanged("fresh(1, 0)", length, 0, x -> x.fresh(1, 0));
        unchanged("fresh(64, 2^62)", length, 0, x -> x.fresh(64, HIGHEST));
        unchanged("trip(9)", length, 0, x -> x.trip(9));
        unchanged("trip(0)", length, 0, x -> x.trip(0));
        unchanged("may(1, 3, true) again", length, 2, x -> x.may(1, 3, true));
        unchanged("may(1, 2, false) again", length, 2, x -> x.may(1, 2, false));
        unchanged("check(1)", length, Checks.checkValue(FIRST), x -> x.check(1));
        unchanged("out(5)", length, Checks.NOTHING_THERE, x -> Checks.outOrNothing(x, 5));
        unchanged("out(-1)", length, Checks.NOTHING_THERE, x -> Checks.outOrNothing(x, -1));
        if (length == 300) {
            unchanged("an octet more", length, 0, RefusalsTest::octet);
        }
    }

    private static int octet(MessageCodes x) {
        x.octet((byte) 1);
        return 0;
    }

    private static void noRoom() {
        for (int key = 4; key <= 16; key++) {
            int last = key;
            unchangedWithSixteen("key() thrice, key " + key, x -> x.check(last));
            unchangedWithSixteen("key() thrice, octet of key " + key, x -> keyByte(x, last) + x.check(last));
            unchangedWithSixteen("key() thrice, list of key " + key, x -> x.may(64, last, false));
        }
        for (Look look : LOOKS) {
            List<Integer> seen = new ArrayList<>();
            List<Integer> want = new ArrayList<>();
            look.at(thriceRefused(withSixteen()), seen);
            look.at(withSixteen(), want);
            Checks.due("key() of 17 changes nothing", seen.equals(want) ? 1 : 0, 1);
        }
    }

    private static void unchangedWithSixteen(String name, Call look) {
        Checks.due(name, look.on(thriceRefused(withSixteen())), look.on(withSixteen()));
    }

    private static MessageCodes withSixteen() {
        MessageCodes x = made(12);
        for (int key = 4; key <= 16; key++) {
            Checks.due("key()", x.key(), key);
            x.keyByte(key, (byte) key);
            x.may(64, key, true);
        }
        return x;
    }

    private static MessageCodes thriceRefused(MessageCodes x) {
        for (int i = 0; i < 3; i++) {
            Checks.due("key()", x.key(), -4);
        }
        return x;
    }
}
