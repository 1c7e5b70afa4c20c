import java.util.ArrayList;
import java.util.Arrays;
import java.util.HashMap;
import java.util.HashSet;
import java.util.List;
import java.util.Map;
import java.util.Random;
import java.util.Set;

/** Runs of calls drawn by a fixed seed, each answer beside that of a second program made with the Java library. */
public final class ModelTest {
    private static final int RUNS = 1500;
    private static final int MOST_CALLS = 512;
    private static final long HIGHEST = 1L << 62;
    private static final int TRY_ROW = 23;

    private final Random random;
    private final String name;
    /** Do the senders make mostly bad tries? Else few runs would ever block one. */
    private final boolean pressed;
    private final MessageCodes x = new MessageCodes();
    private int calls;

    private final List<byte[]> keys = new ArrayList<>();
    private final List<Integer> places = new ArrayList<>();
    private final List<Long> installs = new ArrayList<>();
    private final Map<Integer, Long> counters = new HashMap<>();
    private final Map<Integer, Integer> badTries = new HashMap<>();
    private final Map<Integer, Set<Integer>> lists = new HashMap<>();
    private byte[] message = new byte[0];
    private byte[] out = new byte[0];
    private long trip;

    private ModelTest(int seed) {
        random = new Random(seed);
        name = "run " + seed + ", ";
        pressed = seed % 3 == 0;
    }

    public static void main(String[] args) {
        for (int seed = 1; seed <= RUNS; seed++) {
            new ModelTest(seed).run();
        }
        Checks.end();
    }

    private void run() {
        int early = random.nextInt(4);
        for (int i = 0; i < early; i++) {
            makeKey();
        }
        // A step may take as many calls as the longest row that it collects, and some more.
        while (calls < MOST_CALLS - 60) {
            step(pressed && random.nextInt(3) != 0 ? TRY_ROW : random.nextInt(24));
        }
        if (random.nextInt(8) == 0) {
            return;
        }
        while (calls < MOST_CALLS) {
            look();
        }
    }

    private void step(int kind) {
        switch (kind) {
            case 0 -> makeKey();
            case 1 -> keyOctets(1 + random.nextInt(20));
            case 2, 3 -> octets(random.nextInt(40));
            case 4, 5 -> code();
            case 6, 7 -> fresh();
            case 8 -> beginTrip();
            case 9, 10 -> encipher();
            case 11, 12 -> may();
            case 13, 14 -> install();
            case 15 -> verify(anyKey(), anyId(), random.nextInt(300) - 20);
            case 16 -> look();
            default -> tryRow();
        }
    }

    private int anyKey() {
        return random.nextInt(12) == 0 ? random.nextInt(40) - 10 : 1 + random.nextInt(Math.max(1, keys.size()));
    }

    private int anyId() {
        int[] edges = {1, 2, 64, 0, 65, -1};
        return edges[random.nextInt(random.nextInt(8) == 0 ? 6 : 3)];
    }

    private boolean hasKey(int key) {
        return key >= 1 && key <= keys.size();
    }

    private static boolean hasSender(int id) {
        return id >= 1 && id <= 64;
    }

    private long counterOf(int id) {
        return counters.getOrDefault(id, 0L);
    }

    private void due(String call, long got, long want) {
        calls++;
        Checks.due(name + "call " + calls + ", " + call, got, want);
    }

    private void makeKey() {
        int want = keys.size() == 16 ? -4 : keys.size() + 1;
        if (want > 0) {
            keys.add(new byte[16]);
            places.add(0);
            installs.add(0L);
        }
        due("key()", x.key(), want);
    }

    private void keyOctets(int many) {
        int key = anyKey();
        for (int i = 0; i < many; i++) {
            byte b = (byte) random.nextInt();
            x.keyByte(key, b);
            calls++;
            if (hasKey(key)) {
                int place = places.get(key - 1);
                keys.get(key - 1)[place] = b;
                places.set(key - 1, (place + 1) % 16);
            }
        }
    }

    private void octets(int many) {
        byte[] row = new byte[many];
        random.nextBytes(row);
        collect(row);
    }

    private void collect(byte[] row) {
        Checks.giveMessage(x, row);
        calls += row.length;
        byte[] all = Checks.join(message, row);
        message = all.length > 300 ? Checks.first(all, 300) : all;
    }

    private void code() {
        int key = anyKey();
        int bits = random.nextInt(6) == 0 ? random.nextInt(200) - 30 : 32 + random.nextInt(97);
        int want = !hasKey(key) ? -1 : bits < 32 || bits > 128 ? -2 : (bits + 7) / 8;
        if (want > 0) {
            out = Checks.first(Checks.libraryCode(keys.get(key - 1), message), want);
            out[want - 1] &= (byte) (-1 << (8 * want - bits));
            message = new byte[0];
        }
        due("code(" + key + ", " + bits + ")", x.code(key, bits), want);
        look();
    }

    private void encipher() {
        if (message.length < 16 && random.nextInt(4) != 0) {
            octets(16 - message.length);
        }
        int key = anyKey();
        int want = !hasKey(key) ? -1 : message.length != 16 ? -3 : 16;
        if (want > 0) {
            out = Checks.libraryCipher(keys.get(key - 1), message);
            message = new byte[0];
        }
        due("encipher(" + key + ")", x.encipher(key), want);
        look();
    }

    private void look() {
        int i = random.nextInt(20) - 2;
        int want = i >= 0 && i < out.length ? out[i] : Checks.NOTHING_THERE;
        due("out(" + i + ")", Checks.outOrNothing(x, i), want);
        if (calls < MOST_CALLS) {
            int key = anyKey();
            due("check(" + key + ")", x.check(key), hasKey(key) ? Checks.checkValue(keys.get(key - 1)) : 0);
        }
    }

    private void fresh() {
        int id = anyId();
        long[] choices = {counterOf(id) + random.nextInt(5) - 2, random.nextInt(1000), HIGHEST + random.nextInt(4) - 2,
            random.nextLong(), HIGHEST - random.nextInt(80)};
        int kind = random.nextInt(12);
        long counter = choices[kind < choices.length ? kind : 0];
        int want = !hasSender(id) ? -1 : counter < 0 || counter > HIGHEST ? -2 : counter > counterOf(id) ? 1 : 0;
        if (want == 1) {
            counters.put(id, counter);
        }
        due("fresh(" + id + ", " + counter + ")", x.fresh(id, counter), want);
    }

    private void beginTrip() {
        long n = random.nextInt(8) == 0 ? random.nextLong() >> random.nextInt(33) : trip + random.nextInt(4) - 1;
        int want = n < 0 || n > 0xffffffffL ? -2 : n > trip ? 1 : 0;
        if (want == 1) {
            trip = n;
            counters.clear();
            badTries.clear();
        }
        due("trip(" + n + ")", x.trip(n), want);
    }

    private void may() {
        int id = anyId();
        int key = anyKey();
        boolean on = random.nextInt(4) != 0;
        int want = -1;
        if (hasKey(key) && hasSender(id)) {
            Set<Integer> list = lists.computeIfAbsent(id, none -> new HashSet<>());
            if (on) {
                list.add(key);
            } else {
                list.remove(key);
            }
            want = list.size();
        }
        due("may(" + id + ", " + key + ", " + on + ")", x.may(id, key, on), want);
    }

    private byte[] rowOfTry(int id, long counter) {
        return Checks.join(Checks.number(id, 1), Checks.number(trip, 4), Checks.number(counter, 8));
    }

    /** A row with its code as a sender would make it, one time in three (or nearly always) altered in a bit. */
    private void tryRow() {
        int key = anyKey();
        int id = anyId();
        int[] steps = {0, 1, 2, 64, 65, 200};
        long counter = counterOf(id) + (random.nextInt(3) == 0 ? steps[random.nextInt(6)] : 1 + random.nextInt(64));
        if (hasKey(key) && message.length <= 292) {
            byte[] all = Checks.join(rowOfTry(id, counter), message);
            byte[] cutCode = Checks.first(Checks.libraryCode(keys.get(key - 1), all), 8);
            if (pressed ? random.nextInt(6) != 0 : random.nextInt(3) == 0) {
                cutCode[random.nextInt(8)] ^= (byte) (1 << random.nextInt(8));
            }
            collect(cutCode);
        }
        verify(key, id, (int) (counter & 255));
    }

    private void verify(int key, int id, int cut) {
        int want = answerOfTry(key, id, cut);
        if (want >= 0) {
            message = new byte[0];
        }
        due("verify(" + key + ", " + id + ", " + cut + ")", x.verify(key, id, cut), want);
    }

    private int answerOfTry(int key, int id, int cut) {
        if (!hasKey(key) || !hasSender(id)) {
            return -1;
        }
        if (cut < 0 || cut > 255) {
            return -2;
        }
        boolean listed = lists.getOrDefault(id, Set.of()).contains(key);
        if (!listed || badTries.getOrDefault(id, 0) == 5 || message.length < 8) {
            return -3;
        }
        long ahead = Math.floorMod(cut - counterOf(id) % 256, 256L);
        if (ahead == 0) {
            return 0;
        }
        long counter = counterOf(id) + ahead;
        if (ahead > 64 || counter > HIGHEST) {
            return 2;
        }
        byte[] row = Checks.first(message, message.length - 8);
        byte[] told = Arrays.copyOfRange(message, row.length, message.length);
        byte[] whole = Checks.libraryCode(keys.get(key - 1), Checks.join(rowOfTry(id, counter), row));
        if (!Arrays.equals(told, Checks.first(whole, 8))) {
            badTries.merge(id, 1, Integer::sum);
            return 0;
        }
        badTries.remove(id);
        counters.put(id, counter);
        return 1;
    }

    private void install() {
        int key = anyKey();
        int with = anyKey();
        long held = hasKey(key) ? installs.get(key - 1) : 0;
        long counter = random.nextInt(6) == 0 ? random.nextLong() : held + random.nextInt(4) - 1;
        if (hasKey(with) && message.length <= 16) {
            octets(16 - message.length);
            byte[] all = Checks.join(Checks.number(counter, 8), message);
            byte[] cutCode = Checks.first(Checks.libraryCode(keys.get(with - 1), all), 8);
            if (random.nextInt(4) == 0) {
                cutCode[random.nextInt(8)] ^= (byte) (1 << random.nextInt(8));
            }
            collect(cutCode);
        }
        due("install(" + key + ", " + with + ", " + counter + ")", x.install(key, with, counter),
                answerOfInstall(key, with, counter));
        look();
    }

    private int answerOfInstall(int key, int with, long counter) {
        if (!hasKey(key) || !hasKey(with)) {
            return -1;
        }
        if (counter < 0) {
            return -2;
        }
        if (message.length != 24) {
            return -3;
        }
        byte[] wrapped = Checks.first(message, 16);
        byte[] told = Arrays.copyOfRange(message, 16, 24);
        message = new byte[0];
        byte[] other = keys.get(with - 1);
        byte[] whole = Checks.libraryCode(other, Checks.join(Checks.number(counter, 8), wrapped));
        if (!Arrays.equals(told, Checks.first(whole, 8)) || counter <= installs.get(key - 1)) {
            return 0;
        }
        byte[] mask = Checks.libraryCipher(other, Checks.number(counter, 16));
        for (int i = 0; i < 16; i++) {
            wrapped[i] ^= mask[i];
        }
        keys.set(key - 1, wrapped);
        places.set(key - 1, 0);
        installs.set(key - 1, counter);
        return 1;
    }
}
