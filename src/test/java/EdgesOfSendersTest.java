/** The edges that promises 7, 8, 11 and 13 name, a test for each sentence; the sentence stands above it. */
public final class EdgesOfSendersTest {
    private static final long HIGHEST = 4611686018427387904L;
    private static final long HIGHEST_TRIP = 4294967295L;
    private static final byte[] KEY = Checks.hex("000102030405060708090a0b0c0d0e0f");
    private static final byte[] ROW = Checks.hex("55aa00ff7f80");
    private static final int[] NO_SENDERS = {0, 65, -1, 66, 128, 257, Integer.MIN_VALUE, Integer.MAX_VALUE};
    private static final int[] NO_KEYS = {0, 2, -1, 16, 17, 33, 257, Integer.MIN_VALUE, Integer.MAX_VALUE};

    public static void main(String[] args) {
        freshIsKept();
        freshNotAbove();
        freshNeedsASender();
        freshOutsideTheRange();
        stepsModuloTwoHundredFiftySix();
        noughtForNoStep();
        syncAboveSixtyFour();
        syncAboveTheHighest();
        carriesIntoHigherOctets();
        identityTripAndCounterAreCoded();
        emptyAndLongestRows();
        everyBitOfTheCode();
        verifyEmptiesTheMessage();
        refusedTriesLeaveTheMessage();
        fiveBadTries();
        goodTryBetweenBadOnes();
        othersAreNoBadTries();
        refusedTriesAreNoBadTries();
        badTriesAreEachSendersOwn();
        freshAndMayFreeNobody();
        verifyNeedsKeyAndSender();
        cutsOutsideTheRange();
        mayNotUseTheKey();
        shorterThanEight();
        tripNotAbove();
        tripOutsideTheRange();
        tripClearsAllSenders();
        tripFreesTheBlocked();
        tripLeavesTheLists();
        howManyItMay();
        mayNeedsKeyAndSender();
        Checks.end();
    }

    private static MessageCodes withSenders(int... ids) {
        MessageCodes x = new MessageCodes();
        x.key();
        Checks.giveKey(x, 1, KEY);
        for (int id : ids) {
            x.may(id, 1, true);
        }
        return x;
    }

    private static int tryGood(MessageCodes x, int id, long trip, long counter) {
        Checks.giveMessage(x, Checks.codedRow(KEY, id, trip, counter, ROW));
        return x.verify(1, id, (int) (counter & 255));
    }

    /** Eight octets that are the code of no row here. */
    private static int tryBad(MessageCodes x, int id, int cut) {
        Checks.giveMessage(x, new byte[8]);
        return x.verify(1, id, cut);
    }

    private static void dueBadTries(MessageCodes x, int id, int cut, int many) {
        for (int i = 1; i <= many; i++) {
            Checks.due("bad try " + i + " of " + id, tryBad(x, id, cut), 0);
        }
    }

    /** Is the sender's counter just that? What looks for it raises the counter by one. */
    private static void dueCounter(String when, MessageCodes x, int id, long counter) {
        Checks.due("counter of " + id + " " + when + ", not below", x.fresh(id, counter), 0);
        if (counter < HIGHEST) {
            Checks.due("counter of " + id + " " + when + ", not above", x.fresh(id, counter + 1), 1);
        }
    }

    private static void dueMessage(String when, MessageCodes x, byte[] row) {
        x.code(1, 128);
        Checks.dueOut("the message " + when, x, Checks.libraryCode(KEY, row));
    }

    /** fresh: "1, it is that from now on". */
    private static void freshIsKept() {
        MessageCodes x = withSenders(5);
        for (long counter : new long[] {1, 2, 255, 256, 1L << 31, 1L << 32, HIGHEST - 2}) {
            Checks.due("fresh(5, " + counter + ")", x.fresh(5, counter), 1);
            Checks.due("fresh(5, " + counter + ") again", x.fresh(5, counter), 0);
        }
        Checks.due("the row behind it", tryGood(x, 5, 0, HIGHEST - 1), 1);
        Checks.due("fresh(5, 2^62)", x.fresh(5, HIGHEST), 1);
        Checks.due("fresh(5, 2^62) again", x.fresh(5, HIGHEST), 0);
        dueCounter("that no one told", x, 4, 0);
        dueCounter("that no one told", x, 6, 0);
    }

    /** fresh: "0 if it is not above the one that it has." */
    private static void freshNotAbove() {
        MessageCodes x = withSenders();
        Checks.due("fresh(1, 0) at first", x.fresh(1, 0), 0);
        x.fresh(1, 1000);
        for (long counter : new long[] {1000, 999, 1, 0}) {
            Checks.due("fresh(1, " + counter + ")", x.fresh(1, counter), 0);
        }
        dueCounter("after those", x, 1, 1000);
    }

    /** fresh: "-1 there is no sender", before -2. */
    private static void freshNeedsASender() {
        MessageCodes x = withSenders();
        for (int id : NO_SENDERS) {
            for (long counter : new long[] {0, 1, HIGHEST, -1, HIGHEST + 1, Long.MIN_VALUE, Long.MAX_VALUE}) {
                Checks.due("fresh(" + id + ", " + counter + ")", x.fresh(id, counter), -1);
            }
        }
        for (int id = 1; id <= 64; id++) {
            dueCounter("after those", x, id, 0);
        }
    }

    /** fresh: "-2 it is below 0 or above 2^62." */
    private static void freshOutsideTheRange() {
        for (long held : new long[] {0, 5, HIGHEST}) {
            MessageCodes x = withSenders();
            x.fresh(64, held);
            for (long counter : new long[] {-1, -2, HIGHEST + 1, HIGHEST + 2, Long.MIN_VALUE, Long.MAX_VALUE}) {
                Checks.due("fresh(64, " + counter + ")", x.fresh(64, counter), -2);
            }
            dueCounter("after those", x, 64, held);
        }
    }

    /** verify: "d being cut less its lowest eight bits, modulo 256": every cut, from counters round the wrap. */
    private static void stepsModuloTwoHundredFiftySix() {
        long base = 0x01020300L;
        for (int low : new int[] {0, 1, 63, 64, 127, 128, 191, 192, 193, 254, 255}) {
            for (int cut = 0; cut <= 255; cut++) {
                int ahead = Math.floorMod(cut - low, 256);
                MessageCodes x = withSenders(9);
                x.fresh(9, base + low);
                int due = ahead == 0 ? 0 : ahead > 64 ? 2 : 1;
                Checks.due("cut " + cut + " behind " + low, tryGood(x, 9, 0, base + low + ahead), due);
                dueCounter("after cut " + cut + " behind " + low, x, 9, base + low + (due == 1 ? ahead : 0));
            }
        }
    }

    /** verify: "0 when d is 0", even for a row that is coded well. */
    private static void noughtForNoStep() {
        for (long counter : new long[] {0, 1, 255, 256, 512, HIGHEST - 1, HIGHEST}) {
            MessageCodes x = withSenders(1);
            x.fresh(1, counter);
            Checks.due("the same counter " + counter, tryGood(x, 1, 0, counter), 0);
            dueCounter("after that", x, 1, counter);
        }
        MessageCodes x = withSenders(1);
        Checks.due("256 more has the same cut", tryGood(x, 1, 0, 256), 0);
        Checks.due("a row sent once", tryGood(x, 1, 0, 1), 1);
        Checks.due("and sent again", tryGood(x, 1, 0, 1), 0);
        dueCounter("after that", x, 1, 1);
    }

    /** verify: "2 when d is above 64". */
    private static void syncAboveSixtyFour() {
        for (int ahead : new int[] {65, 66, 128, 254, 255}) {
            MessageCodes x = withSenders(1);
            x.fresh(1, 10);
            Checks.due(ahead + " ahead", tryGood(x, 1, 0, 10 + ahead), 2);
            dueCounter("after that", x, 1, 10);
        }
        MessageCodes x = withSenders(1);
        Checks.due("64 ahead", tryGood(x, 1, 0, 64), 1);
        Checks.due("one back", tryGood(x, 1, 0, 63), 2);
        dueCounter("after those", x, 1, 64);
    }

    /** verify: "or the counter would be above 2^62 (a sync is needed)". */
    private static void syncAboveTheHighest() {
        for (int ahead = 1; ahead <= 66; ahead++) {
            MessageCodes x = withSenders(1);
            long held = HIGHEST - 63;
            x.fresh(1, held);
            Checks.due("2^62 - 63 and " + ahead, tryGood(x, 1, 0, held + ahead), ahead <= 63 ? 1 : 2);
            dueCounter("after that", x, 1, ahead <= 63 ? held + ahead : held);
        }
        MessageCodes x = withSenders(1);
        x.fresh(1, HIGHEST);
        for (int cut : new int[] {1, 2, 64, 65, 255}) {
            Checks.due("2^62 and " + cut, tryGood(x, 1, 0, HIGHEST + cut), 2);
        }
        Checks.due("2^62 and none", tryGood(x, 1, 0, HIGHEST), 0);
        dueCounter("after those", x, 1, HIGHEST);
    }

    /** verify: "the counter (8 octets), the highest octet first". */
    private static void carriesIntoHigherOctets() {
        for (int bits = 7; bits <= 61; bits++) {
            long held = (1L << bits) - 1;
            MessageCodes x = withSenders(1);
            x.fresh(1, held);
            Checks.due("2^" + bits + " - 1 and 2", tryGood(x, 1, 0, held + 2), 1);
            dueCounter("after that", x, 1, held + 2);
        }
    }

    /** verify: "the identity (1 octet), the trip (4 octets), the counter (8 octets)": another's is none. */
    private static void identityTripAndCounterAreCoded() {
        MessageCodes x = withSenders(1, 64);
        x.trip(0x80000000L);
        Checks.giveMessage(x, Checks.codedRow(KEY, 2, 0x80000000L, 1, ROW));
        Checks.due("another identity", x.verify(1, 1, 1), 0);
        Checks.giveMessage(x, Checks.codedRow(KEY, 1, 0, 1, ROW));
        Checks.due("another trip", x.verify(1, 1, 1), 0);
        Checks.giveMessage(x, Checks.codedRow(KEY, 1, 0x80000000L, 257, ROW));
        Checks.due("another counter with that cut", x.verify(1, 1, 1), 0);
        Checks.giveMessage(x, Checks.join(ROW, Checks.first(Checks.libraryCode(KEY, ROW), 8)));
        Checks.due("the row alone", x.verify(1, 1, 1), 0);
        Checks.due("all as they are", tryGood(x, 1, 0x80000000L, 1), 1);
        Checks.due("all as they are, 64", tryGood(x, 64, 0x80000000L, 64), 1);
        Checks.due("trip(4294967295)", x.trip(HIGHEST_TRIP), 1);
        Checks.due("the highest trip", tryGood(x, 64, HIGHEST_TRIP, 1), 1);
    }

    /** verify: "a row and, behind it, the first 8 octets of a code": the row has 0 to 292 octets. */
    private static void emptyAndLongestRows() {
        for (int length : new int[] {0, 1, 2, 3, 4, 18, 19, 20, 290, 291, 292}) {
            MessageCodes x = withSenders(1);
            byte[] row = new byte[length];
            Checks.giveMessage(x, Checks.codedRow(KEY, 1, 0, 2, row));
            Checks.due("a row of " + length, x.verify(1, 1, 2), 1);
            dueCounter("after that", x, 1, 2);
        }
        MessageCodes x = withSenders(1);
        Checks.giveMessage(x, Checks.codedRow(KEY, 1, 0, 2, new byte[293]));
        Checks.due("a row of 293, whose code's last octet is lost", x.verify(1, 1, 2), 0);
    }

    /** verify: "1, if that is the code", "0 if not": each bit of the eight octets. */
    private static void everyBitOfTheCode() {
        byte[] good = Checks.codedRow(KEY, 1, 0, 1, ROW);
        for (int bit = 0; bit < 8 * good.length; bit++) {
            byte[] altered = good.clone();
            altered[bit / 8] ^= (byte) (128 >> (bit % 8));
            MessageCodes x = withSenders(1);
            Checks.giveMessage(x, altered);
            Checks.due("bit " + bit + " altered", x.verify(1, 1, 1), 0);
            dueCounter("after that", x, 1, 0);
        }
    }

    /** verify: "The message is empty then. (So with 0 for d and with 2, which are no bad tries" */
    private static void verifyEmptiesTheMessage() {
        MessageCodes x = withSenders(1);
        Checks.due("good", tryGood(x, 1, 0, 1), 1);
        dueMessage("after 1", x, new byte[0]);
        Checks.due("bad", tryBad(x, 1, 2), 0);
        dueMessage("after 0", x, new byte[0]);
        Checks.due("0 for d", tryGood(x, 1, 0, 1), 0);
        dueMessage("after 0 for d", x, new byte[0]);
        Checks.due("too far", tryGood(x, 1, 0, 66), 2);
        dueMessage("after 2", x, new byte[0]);
        x.fresh(1, HIGHEST);
        Checks.due("too high", tryGood(x, 1, 0, HIGHEST + 1), 2);
        dueMessage("after 2 above 2^62", x, new byte[0]);
    }

    /** verify: "refused it stays.)" */
    private static void refusedTriesLeaveTheMessage() {
        MessageCodes x = withSenders(1, 3);
        dueBadTries(x, 3, 1, 5);
        Checks.giveMessage(x, Checks.codedRow(KEY, 1, 0, 1, ROW));
        Checks.due("no key", x.verify(2, 1, 1), -1);
        Checks.due("no sender", x.verify(1, 65, 1), -1);
        Checks.due("no cut", x.verify(1, 1, 256), -2);
        Checks.due("may not", x.verify(1, 2, 1), -3);
        Checks.due("blocked", x.verify(1, 3, 1), -3);
        Checks.due("the message at last", x.verify(1, 1, 1), 1);
        Checks.giveMessage(x, Checks.hex("01020304050607"));
        Checks.due("too short", x.verify(1, 1, 2), -3);
        dueMessage("after all refusals", x, Checks.hex("01020304050607"));
    }

    /** verify: "With 5 bad tries one after the other it is BLOCKED." */
    private static void fiveBadTries() {
        MessageCodes x = withSenders(1);
        dueBadTries(x, 1, 1, 4);
        Checks.due("good after four", tryGood(x, 1, 0, 1), 1);
        dueBadTries(x, 1, 2, 5);
        Checks.due("good after five", tryGood(x, 1, 0, 2), -3);
        Checks.due("it stays", x.verify(1, 1, 2), -3);
        Checks.due("0 for d", x.verify(1, 1, 1), -3);
        Checks.due("too far", x.verify(1, 1, 200), -3);
        dueCounter("of a blocked one", x, 1, 1);
    }

    /** verify: "one after the other": a good one between them ends the row, wherever it comes. */
    private static void goodTryBetweenBadOnes() {
        for (int before = 0; before <= 4; before++) {
            MessageCodes x = withSenders(1);
            dueBadTries(x, 1, 1, before);
            Checks.due("good after " + before, tryGood(x, 1, 0, 1), 1);
            dueBadTries(x, 1, 2, 5);
            Checks.due("blocked", tryGood(x, 1, 0, 2), -3);
        }
    }

    /** verify: "with 0 for d and with 2, which are no bad tries". */
    private static void othersAreNoBadTries() {
        MessageCodes x = withSenders(1);
        x.fresh(1, HIGHEST - 1);
        for (int i = 0; i < 6; i++) {
            Checks.due("0 for d", tryBad(x, 1, 255), 0);
            Checks.due("too far", tryBad(x, 1, 100), 2);
            Checks.due("above 2^62", tryBad(x, 1, 1), 2);
        }
        Checks.due("not blocked", tryGood(x, 1, 0, HIGHEST), 1);
    }

    /** verify: a refused one is no bad try, for refusals change nothing. */
    private static void refusedTriesAreNoBadTries() {
        MessageCodes x = withSenders(1);
        x.key();
        dueBadTries(x, 1, 1, 4);
        Checks.giveMessage(x, new byte[7]);
        for (int i = 0; i < 6; i++) {
            Checks.due("too short", x.verify(1, 1, 1), -3);
            Checks.due("no cut", x.verify(1, 1, -1), -2);
            Checks.due("may not", x.verify(2, 1, 1), -3);
            Checks.due("no key", x.verify(3, 1, 1), -1);
        }
        x.code(1, 32);
        Checks.due("not blocked", tryGood(x, 1, 0, 1), 1);
    }

    /** verify: "the sender has a bad try more": no other has, and the key does not matter. */
    private static void badTriesAreEachSendersOwn() {
        MessageCodes x = withSenders(1, 2, 64);
        x.key();
        x.may(1, 2, true);
        dueBadTries(x, 1, 1, 2);
        dueBadTries(x, 2, 1, 4);
        dueBadTries(x, 1, 1, 2);
        Checks.giveMessage(x, new byte[8]);
        Checks.due("the fifth, with another key", x.verify(2, 1, 1), 0);
        Checks.due("1 is blocked", tryGood(x, 1, 0, 1), -3);
        Checks.due("1 is blocked with the other key", x.verify(2, 1, 1), -3);
        x.code(1, 32);
        Checks.due("2 is not", tryGood(x, 2, 0, 1), 1);
        Checks.due("64 is not", tryGood(x, 64, 0, 1), 1);
    }

    /** verify: "-3 .. is BLOCKED": nothing but a trip is said to end that. */
    private static void freshAndMayFreeNobody() {
        MessageCodes x = withSenders(1);
        dueBadTries(x, 1, 1, 5);
        Checks.due("fresh(1, 30)", x.fresh(1, 30), 1);
        Checks.due("after fresh", tryGood(x, 1, 0, 31), -3);
        Checks.due("may(1, 1, false)", x.may(1, 1, false), 0);
        Checks.due("may(1, 1, true)", x.may(1, 1, true), 1);
        Checks.due("after may", x.verify(1, 1, 31), -3);
        Checks.due("trip(0)", x.trip(0), 0);
        Checks.due("trip(-1)", x.trip(-1), -2);
        Checks.due("after no trip", x.verify(1, 1, 31), -3);
        dueCounter("of a blocked one", x, 1, 30);
    }

    /** verify: "-1 there is no key or sender", before -2 and -3. */
    private static void verifyNeedsKeyAndSender() {
        for (int length : new int[] {0, 7, 8}) {
            MessageCodes x = withSenders(1);
            Checks.giveMessage(x, new byte[length]);
            for (int cut : new int[] {0, 1, 255, 256, -1, Integer.MIN_VALUE, Integer.MAX_VALUE}) {
                for (int key : NO_KEYS) {
                    Checks.due("verify(" + key + ", 1, " + cut + ")", x.verify(key, 1, cut), -1);
                    Checks.due("verify(" + key + ", 65, " + cut + ")", x.verify(key, 65, cut), -1);
                }
                for (int id : NO_SENDERS) {
                    Checks.due("verify(1, " + id + ", " + cut + ")", x.verify(1, id, cut), -1);
                }
            }
            dueMessage("after those", x, new byte[length]);
        }
    }

    /** verify: "-2 cut is not 0 .. 255", before -3. */
    private static void cutsOutsideTheRange() {
        MessageCodes x = withSenders(1, 3);
        dueBadTries(x, 3, 1, 5);
        int[] noCuts = {-1, -2, -255, -256, 256, 257, 511, 512, Integer.MIN_VALUE, Integer.MAX_VALUE};
        for (int cut : noCuts) {
            Checks.due("too short, cut " + cut, x.verify(1, 1, cut), -2);
            Checks.due("may not, cut " + cut, x.verify(1, 2, cut), -2);
            Checks.due("blocked, cut " + cut, x.verify(1, 3, cut), -2);
        }
        Checks.giveMessage(x, Checks.codedRow(KEY, 1, 0, 1, ROW));
        for (int cut : noCuts) {
            Checks.due("cut " + cut, x.verify(1, 1, cut), -2);
        }
        Checks.due("cut 1", x.verify(1, 1, 1), 1);
        Checks.due("cut 0, the least", tryBad(x, 1, 0), 2);
        Checks.due("cut 255, the most", tryBad(x, 1, 255), 2);
    }

    /** verify: "-3 the sender MAY not use the key". */
    private static void mayNotUseTheKey() {
        MessageCodes x = withSenders(1);
        x.key();
        Checks.giveKey(x, 2, KEY);
        Checks.giveMessage(x, Checks.codedRow(KEY, 1, 0, 1, ROW));
        Checks.due("another key", x.verify(2, 1, 1), -3);
        Checks.due("another key, 0 for d", x.verify(2, 1, 0), -3);
        Checks.due("another key, too far", x.verify(2, 1, 100), -3);
        Checks.due("another sender", x.verify(1, 2, 1), -3);
        x.may(1, 1, false);
        Checks.due("no longer", x.verify(1, 1, 1), -3);
        x.may(1, 2, true);
        Checks.due("no longer, but another", x.verify(1, 1, 1), -3);
        Checks.due("that other", x.verify(2, 1, 1), 1);
    }

    /** verify: "or the message is shorter than 8." */
    private static void shorterThanEight() {
        MessageCodes x = withSenders(1);
        byte[] code = Checks.codedRow(KEY, 1, 0, 1, new byte[0]);
        for (int i = 0; i < 8; i++) {
            Checks.due(i + " octets", x.verify(1, 1, 1), -3);
            Checks.due(i + " octets, 0 for d", x.verify(1, 1, 0), -3);
            Checks.due(i + " octets, too far", x.verify(1, 1, 65), -3);
            x.octet(code[i]);
        }
        Checks.due("8 octets, no row", x.verify(1, 1, 1), 1);
        Checks.due("empty again", x.verify(1, 1, 2), -3);
    }

    /** trip: "0 if it is not above the one before." */
    private static void tripNotAbove() {
        MessageCodes x = withSenders(1);
        Checks.due("trip(0) at first", x.trip(0), 0);
        long[] trips = {1, 2, 100, 1L << 31, HIGHEST_TRIP - 1, HIGHEST_TRIP};
        for (long n : trips) {
            Checks.due("trip(" + n + ")", x.trip(n), 1);
            x.fresh(1, 77);
            Checks.due("trip(" + n + ") again", x.trip(n), 0);
            Checks.due("trip(" + (n - 1) + ")", x.trip(n - 1), 0);
            Checks.due("trip(0)", x.trip(0), 0);
            dueCounter("after those", x, 1, 77);
            Checks.due("a row of trip " + n, tryGood(x, 1, n, 79), 1);
        }
    }

    /** trip: "-2 it is below 0 or above 4294967295." */
    private static void tripOutsideTheRange() {
        for (long held : new long[] {0, 3, HIGHEST_TRIP}) {
            MessageCodes x = withSenders(1, 2);
            x.trip(held);
            x.fresh(1, 40);
            dueBadTries(x, 2, 1, 5);
            for (long n : new long[] {-1, -2, HIGHEST_TRIP + 1, HIGHEST_TRIP + 2, 1L << 40, (1L << 32) + held + 1,
                Long.MIN_VALUE, Long.MAX_VALUE}) {
                Checks.due("trip(" + n + ")", x.trip(n), -2);
            }
            Checks.due("2 is blocked still", tryGood(x, 2, held, 1), -3);
            x.code(1, 32);
            dueCounter("after those", x, 1, 40);
            Checks.due("the trip has stayed", tryGood(x, 1, held, 42), 1);
        }
    }

    /** trip: "1, and all senders' counters are 0". */
    private static void tripClearsAllSenders() {
        MessageCodes x = withSenders();
        for (int id = 1; id <= 64; id++) {
            x.fresh(id, id % 2 == 0 ? HIGHEST : id);
        }
        Checks.due("trip(1)", x.trip(1), 1);
        for (int id = 1; id <= 64; id++) {
            dueCounter("after a trip", x, id, 0);
        }
    }

    /** trip: "their bad tries, too (none is BLOCKED)". */
    private static void tripFreesTheBlocked() {
        MessageCodes x = withSenders(1, 2, 64);
        dueBadTries(x, 1, 1, 5);
        dueBadTries(x, 2, 1, 4);
        dueBadTries(x, 64, 1, 5);
        Checks.giveMessage(x, Checks.codedRow(KEY, 64, 1, 1, ROW));
        Checks.due("64 before the trip", x.verify(1, 64, 1), -3);
        Checks.due("trip(1)", x.trip(1), 1);
        Checks.due("64 after it, the message having stayed", x.verify(1, 64, 1), 1);
        for (int id : new int[] {1, 2}) {
            dueBadTries(x, id, 1, 5);
            Checks.due(id + " is blocked by five new ones", tryGood(x, id, 1, 1), -3);
            x.code(1, 32);
        }
    }

    /** trip: what it does not name stays: keys, lists, the message and OUT. */
    private static void tripLeavesTheLists() {
        MessageCodes x = withSenders(1, 64);
        x.code(1, 40);
        Checks.giveMessage(x, ROW);
        Checks.due("trip(9)", x.trip(9), 1);
        Checks.dueOut("OUT after a trip", x, Checks.first(Checks.libraryCode(KEY, new byte[0]), 5));
        dueMessage("after a trip", x, ROW);
        Checks.due("check(1)", x.check(1), Checks.checkValue(KEY));
        Checks.due("a listed sender", tryGood(x, 64, 9, 1), 1);
        Checks.due("one that is not", tryGood(x, 2, 9, 1), -3);
        Checks.due("may(1, 1, false)", x.may(1, 1, false), 0);
    }

    /** may: "how many it may", from none to 16, and said twice it is said once. */
    private static void howManyItMay() {
        MessageCodes x = new MessageCodes();
        for (int key = 1; key <= 16; key++) {
            x.key();
        }
        for (int key = 16; key >= 1; key--) {
            Checks.due("not yet", x.may(64, key, false), 16 - key);
            Checks.due("on", x.may(64, key, true), 17 - key);
            Checks.due("on again", x.may(64, key, true), 17 - key);
        }
        for (int key = 1; key <= 16; key++) {
            Checks.due("off", x.may(64, key, false), 16 - key);
            Checks.due("off again", x.may(64, key, false), 16 - key);
            Checks.due("another's list", x.may(63, key, true), key);
        }
        Checks.due("on at last", x.may(64, 16, true), 1);
    }

    /** may: "-1 there is no key or sender." */
    private static void mayNeedsKeyAndSender() {
        MessageCodes x = withSenders(1);
        for (boolean on : new boolean[] {true, false}) {
            for (int key : NO_KEYS) {
                Checks.due("may(1, " + key + ", " + on + ")", x.may(1, key, on), -1);
                Checks.due("may(65, " + key + ", " + on + ")", x.may(65, key, on), -1);
            }
            for (int id : NO_SENDERS) {
                Checks.due("may(" + id + ", 1, " + on + ")", x.may(id, 1, on), -1);
            }
        }
        Checks.due("the second key", x.key(), 2);
        Checks.due("may(1, 2, false), no one may use a new key", x.may(1, 2, false), 1);
        Checks.due("may(1, 1, false)", x.may(1, 1, false), 0);
    }
}
