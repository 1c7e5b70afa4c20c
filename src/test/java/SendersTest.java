/** Promises 7, 8, 11 and 13: fresh, verify, trip, may. */
public final class SendersTest {
    private static final long HIGHEST = 1L << 62;
    private static final byte[] KEY = Checks.hex("000102030405060708090a0b0c0d0e0f");
    private static final byte[] ROW = Checks.hex("11223344556677");

    public static void main(String[] args) {
        freshCounters();
        freshRefusals();
        goodTries();
        rowsOfManyLengths();
        alteredTriesAreBad();
        stepsAhead();
        countersNearTheHighest();
        verifyRefusals();
        fiveBadTriesBlock();
        goodTryEndsBadOnes();
        otherAnswersAreNoBadTries();
        messageIsEmptyThen();
        trips();
        tripFreesBlockedSenders();
        listsOfKeys();
        Checks.end();
    }

    private static MessageCodes withSender(int id) {
        MessageCodes x = new MessageCodes();
        x.key();
        Checks.giveKey(x, 1, KEY);
        x.may(id, 1, true);
        return x;
    }

    private static int tryCoded(MessageCodes x, int id, long trip, long counter) {
        Checks.giveMessage(x, Checks.codedRow(KEY, id, trip, counter, ROW));
        return x.verify(1, id, (int) (counter & 255));
    }

    private static int tryBad(MessageCodes x, int id, int cut) {
        Checks.giveMessage(x, new byte[9]);
        return x.verify(1, id, cut);
    }

    private static void freshCounters() {
        MessageCodes x = new MessageCodes();
        Checks.due("fresh(1, 0)", x.fresh(1, 0), 0);
        Checks.due("fresh(1, 1)", x.fresh(1, 1), 1);
        Checks.due("fresh(1, 1) again", x.fresh(1, 1), 0);
        Checks.due("fresh(1, 900)", x.fresh(1, 900), 1);
        Checks.due("fresh(1, 899)", x.fresh(1, 899), 0);
        Checks.due("fresh(1, 901)", x.fresh(1, 901), 1);
        Checks.due("fresh(2, 1), a sender of its own", x.fresh(2, 1), 1);
        Checks.due("fresh(64, 2^62)", x.fresh(64, HIGHEST), 1);
        Checks.due("fresh(64, 2^62) again", x.fresh(64, HIGHEST), 0);
        Checks.due("fresh(63, 1)", x.fresh(63, 1), 1);
    }

    private static void freshRefusals() {
        MessageCodes x = new MessageCodes();
        for (int id : new int[] {0, 65, -1, Integer.MIN_VALUE, Integer.MAX_VALUE}) {
            Checks.due("fresh(" + id + ", 1)", x.fresh(id, 1), -1);
            Checks.due("fresh(" + id + ", -1)", x.fresh(id, -1), -1);
        }
        for (long counter : new long[] {-1, HIGHEST + 1, Long.MIN_VALUE, Long.MAX_VALUE}) {
            Checks.due("fresh(1, " + counter + ")", x.fresh(1, counter), -2);
        }
        Checks.due("fresh(1, 1) after refusals", x.fresh(1, 1), 1);
    }

    private static void goodTries() {
        MessageCodes x = withSender(7);
        Checks.due("counter 1", tryCoded(x, 7, 0, 1), 1);
        Checks.due("counter 1 again", tryCoded(x, 7, 0, 1), 0);
        Checks.due("counter 3", tryCoded(x, 7, 0, 3), 1);
        Checks.due("fresh(7, 3)", x.fresh(7, 3), 0);
        Checks.due("fresh(7, 250)", x.fresh(7, 250), 1);
        Checks.due("counter 260, over the cut's end", tryCoded(x, 7, 0, 260), 1);
        Checks.due("fresh(7, 260)", x.fresh(7, 260), 0);
        Checks.due("fresh(7, 261)", x.fresh(7, 261), 1);
        Checks.due("fresh", x.fresh(7, 0x0102030405060708L), 1);
        Checks.due("a counter of many octets", tryCoded(x, 7, 0, 0x0102030405060709L), 1);
    }

    private static void rowsOfManyLengths() {
        for (int length : new int[] {0, 1, 2, 3, 4, 18, 19, 20, 35, 291, 292}) {
            MessageCodes x = withSender(64);
            Checks.giveMessage(x, Checks.codedRow(KEY, 64, 0, 1, new byte[length]));
            Checks.due("a row of " + length, x.verify(1, 64, 1), 1);
        }
    }

    private static void alteredTriesAreBad() {
        byte[] good = Checks.codedRow(KEY, 1, 0, 1, ROW);
        for (int i = 0; i < good.length; i++) {
            MessageCodes x = withSender(1);
            byte[] altered = good.clone();
            altered[i] ^= (byte) (1 << (i % 8));
            Checks.giveMessage(x, altered);
            Checks.due("octet " + i + " altered", x.verify(1, 1, 1), 0);
            Checks.due("fresh after it", x.fresh(1, 1), 1);
        }
        MessageCodes x = withSender(1);
        x.may(2, 1, true);
        Checks.giveMessage(x, good);
        Checks.due("another sender's row", x.verify(1, 2, 1), 0);
        Checks.giveMessage(x, good);
        Checks.due("another counter's row", x.verify(1, 1, 2), 0);
        x.trip(1);
        Checks.giveMessage(x, good);
        Checks.due("another trip's row", x.verify(1, 1, 1), 0);
        x.key();
        x.may(1, 2, true);
        Checks.giveMessage(x, Checks.codedRow(KEY, 1, 1, 1, ROW));
        Checks.due("another key's row", x.verify(2, 1, 1), 0);
        Checks.due("the row at last", tryCoded(x, 1, 1, 1), 1);
    }

    private static void stepsAhead() {
        for (int start : new int[] {1, 191, 192, 255, 256, 1000}) {
            for (int ahead : new int[] {0, 1, 63, 64, 65, 128, 255}) {
                MessageCodes x = withSender(3);
                x.fresh(3, start);
                int due = ahead == 0 ? 0 : ahead > 64 ? 2 : 1;
                Checks.due(start + " and " + ahead + " ahead", tryCoded(x, 3, 0, start + ahead), due);
                Checks.due("fresh of it", x.fresh(3, start + ahead), due == 2 ? 1 : 0);
            }
        }
    }

    private static void countersNearTheHighest() {
        MessageCodes x = withSender(1);
        x.fresh(1, HIGHEST - 3);
        Checks.due("above 2^62", tryCoded(x, 1, 0, HIGHEST + 1), 2);
        Checks.due("2^62 - 1", tryCoded(x, 1, 0, HIGHEST - 1), 1);
        Checks.due("2^62", tryCoded(x, 1, 0, HIGHEST), 1);
        Checks.due("2^62 again", tryCoded(x, 1, 0, HIGHEST), 0);
        Checks.due("one more", tryCoded(x, 1, 0, HIGHEST + 1), 2);
        Checks.due("fresh(1, 2^62)", x.fresh(1, HIGHEST), 0);
    }

    private static void verifyRefusals() {
        MessageCodes x = withSender(1);
        Checks.giveMessage(x, Checks.codedRow(KEY, 1, 0, 1, new byte[0]));
        for (int number : new int[] {0, -1, 65, 2000, Integer.MIN_VALUE, Integer.MAX_VALUE}) {
            Checks.due("verify(" + number + ", 1, 1)", x.verify(number, 1, 1), -1);
            Checks.due("verify(1, " + number + ", 1)", x.verify(1, number, 1), -1);
            Checks.due("verify(1, " + number + ", 256)", x.verify(1, number, 256), -1);
        }
        Checks.due("verify(2, 1, 1)", x.verify(2, 1, 1), -1);
        for (int cut : new int[] {-1, 256, 257, Integer.MIN_VALUE, Integer.MAX_VALUE}) {
            Checks.due("verify(1, 1, " + cut + ")", x.verify(1, 1, cut), -2);
            Checks.due("verify(1, 2, " + cut + ")", x.verify(1, 2, cut), -2);
        }
        Checks.due("verify(1, 2, 1), which may not", x.verify(1, 2, 1), -3);
        x.key();
        Checks.due("verify(2, 1, 1), which may not", x.verify(2, 1, 1), -3);
        x.may(1, 1, false);
        Checks.due("verify(1, 1, 1), no longer", x.verify(1, 1, 1), -3);
        x.may(1, 1, true);
        Checks.due("the message has stayed", x.verify(1, 1, 1), 1);
        Checks.giveMessage(x, new byte[7]);
        Checks.due("seven octets", x.verify(1, 1, 2), -3);
        Checks.due("seven octets, 0 for d", x.verify(1, 1, 1), -3);
        x.octet((byte) 0);
        Checks.due("eight octets", x.verify(1, 1, 2), 0);
    }

    private static void fiveBadTriesBlock() {
        MessageCodes x = withSender(1);
        x.may(2, 1, true);
        for (int i = 1; i <= 5; i++) {
            Checks.due("bad try " + i, tryBad(x, 1, i), 0);
        }
        Checks.giveMessage(x, Checks.codedRow(KEY, 1, 0, 1, ROW));
        Checks.due("a good one of a blocked sender", x.verify(1, 1, 1), -3);
        Checks.due("0 for d of a blocked sender", x.verify(1, 1, 0), -3);
        Checks.due("a wrong cut of a blocked sender", x.verify(1, 1, 256), -2);
        x.code(1, 128);
        Checks.dueOut("the message has stayed", x, Checks.libraryCode(KEY, Checks.codedRow(KEY, 1, 0, 1, ROW)));
        Checks.due("another sender", tryCoded(x, 2, 0, 1), 1);
        Checks.due("fresh(1, 9) of a blocked sender", x.fresh(1, 9), 1);
        Checks.due("may(1, 1, true) of a blocked sender", x.may(1, 1, true), 1);
        Checks.due("blocked still", tryCoded(x, 1, 0, 10), -3);
    }

    private static void goodTryEndsBadOnes() {
        MessageCodes x = withSender(1);
        for (int counter = 1; counter <= 3; counter++) {
            for (int i = 1; i <= 4; i++) {
                Checks.due("bad try " + i, tryBad(x, 1, counter), 0);
            }
            Checks.due("good after four", tryCoded(x, 1, 0, counter), 1);
        }
    }

    private static void otherAnswersAreNoBadTries() {
        MessageCodes x = withSender(1);
        for (int i = 0; i < 8; i++) {
            Checks.due("0 for d", tryBad(x, 1, 0), 0);
            Checks.due("too far ahead", tryBad(x, 1, 65), 2);
        }
        Checks.due("good after those", tryCoded(x, 1, 0, 1), 1);
        for (int i = 1; i <= 5; i++) {
            Checks.due("bad try " + i, tryBad(x, 1, 2), 0);
            if (i < 5) {
                Checks.due("0 for d between", tryBad(x, 1, 1), 0);
                Checks.due("too far between", tryBad(x, 1, 100), 2);
            }
        }
        Checks.due("blocked", tryBad(x, 1, 2), -3);
    }

    private static void messageIsEmptyThen() {
        int[] cuts = {0, 1, 2, 66};
        int[] answers = {0, 0, 1, 2};
        for (int i = 0; i < cuts.length; i++) {
            MessageCodes x = withSender(1);
            Checks.giveMessage(x, Checks.codedRow(KEY, 1, 0, 2, ROW));
            Checks.due("cut " + cuts[i], x.verify(1, 1, cuts[i]), answers[i]);
            x.code(1, 128);
            Checks.dueOut("the message after cut " + cuts[i], x, Checks.libraryCode(KEY, new byte[0]));
        }
    }

    private static void trips() {
        MessageCodes x = withSender(1);
        x.may(64, 1, true);
        Checks.due("trip(0)", x.trip(0), 0);
        x.fresh(1, 500);
        x.fresh(64, HIGHEST);
        for (long n : new long[] {-1, 4294967296L, Long.MIN_VALUE, Long.MAX_VALUE}) {
            Checks.due("trip(" + n + ")", x.trip(n), -2);
        }
        Checks.due("trip(0) with counters", x.trip(0), 0);
        Checks.due("fresh(1, 500) after no trip", x.fresh(1, 500), 0);
        Checks.due("trip(5)", x.trip(5), 1);
        Checks.due("fresh(1, 1)", x.fresh(1, 1), 1);
        Checks.due("fresh(64, 1)", x.fresh(64, 1), 1);
        Checks.due("trip(5) again", x.trip(5), 0);
        Checks.due("trip(4)", x.trip(4), 0);
        Checks.due("fresh(1, 1) again", x.fresh(1, 1), 0);
        Checks.due("a row of trip 5", tryCoded(x, 1, 5, 2), 1);
        Checks.due("trip(0x81828384)", x.trip(0x81828384L), 1);
        Checks.due("a row of it", tryCoded(x, 1, 0x81828384L, 1), 1);
        Checks.due("trip(4294967295)", x.trip(4294967295L), 1);
        Checks.due("trip(4294967295) again", x.trip(4294967295L), 0);
        Checks.due("a row of the last one", tryCoded(x, 64, 4294967295L, 64), 1);
    }

    private static void tripFreesBlockedSenders() {
        MessageCodes x = withSender(1);
        x.may(64, 1, true);
        for (int i = 0; i < 5; i++) {
            tryBad(x, 1, 1);
            tryBad(x, 64, 1);
        }
        Checks.due("sender 64 is blocked", tryBad(x, 64, 1), -3);
        x.code(1, 32);
        Checks.due("trip(0)", x.trip(0), 0);
        Checks.due("sender 1 is blocked still", tryBad(x, 1, 1), -3);
        Checks.due("trip(1)", x.trip(1), 1);
        x.code(1, 128);
        Checks.dueOut("a trip leaves the message", x, Checks.libraryCode(KEY, new byte[9]));
        for (int i = 1; i <= 4; i++) {
            Checks.due("bad try " + i + " of the new trip", tryBad(x, 1, 1), 0);
        }
        Checks.due("good after four", tryCoded(x, 1, 1, 1), 1);
        for (int i = 1; i <= 4; i++) {
            tryBad(x, 1, 2);
        }
        Checks.due("trip(2)", x.trip(2), 1);
        Checks.due("sender 64 is free", tryCoded(x, 64, 2, 1), 1);
        for (int i = 1; i <= 5; i++) {
            Checks.due("bad try " + i + " of the next trip", tryBad(x, 1, 1), 0);
        }
        Checks.due("sender 1 is blocked anew", tryBad(x, 1, 1), -3);
    }

    private static void listsOfKeys() {
        MessageCodes x = new MessageCodes();
        for (int key = 1; key <= 16; key++) {
            Checks.due("may(1, " + key + ", true) too early", x.may(1, key, true), -1);
            x.key();
            Checks.due("may(1, " + key + ", true)", x.may(1, key, true), key);
            Checks.due("may(1, " + key + ", true) again", x.may(1, key, true), key);
        }
        Checks.due("may(64, 16, true), a list of its own", x.may(64, 16, true), 1);
        Checks.due("may(64, 15, false)", x.may(64, 15, false), 1);
        Checks.due("may(64, 16, false)", x.may(64, 16, false), 0);
        for (int number : new int[] {0, -1, 65, Integer.MIN_VALUE, Integer.MAX_VALUE}) {
            Checks.due("may(1, " + number + ", false)", x.may(1, number, false), -1);
            Checks.due("may(" + number + ", 1, false)", x.may(number, 1, false), -1);
        }
        Checks.due("may(1, 17, false)", x.may(1, 17, false), -1);
        x.trip(1);
        for (int key = 16; key >= 1; key--) {
            Checks.due("may(1, " + key + ", false)", x.may(1, key, false), key - 1);
            Checks.due("may(1, " + key + ", false) again", x.may(1, key, false), key - 1);
        }
    }
}
