import java.io.IOException;
import java.nio.ByteBuffer;
import java.nio.file.Files;
import java.nio.file.Path;
import java.util.List;

/** README.md's examples: their lines stand in this file, in their order, and answer what README.md says. */
public final class ReadmeTest {
    private static final Path README = Path.of("README.md");
    private static final Path THIS_FILE = Path.of("src", "test", "java", "ReadmeTest.java");

    public static void main(String[] args) throws IOException {
        examplesAnswerAsTold(Checks.hex("000102030405060708090a0b0c0d0e0f"), Checks.hex("68656c6c6f"),
                Checks.hex("2b7e151628aed2a6abf7158809cf4f3c"));
        examplesAnswerAsTold(new byte[16], new byte[0], Checks.hex("ffffffffffffffffffffffffffffffff"));
        linesStandInThisFile(Files.readAllLines(README), Files.readAllLines(THIS_FILE));
        Checks.end();
    }

    private static void examplesAnswerAsTold(byte[] keyOctets, byte[] row, byte[] newOctets) {
        MessageCodes codes = new MessageCodes();
        int key = codes.key();                                // 1, the first key's number
        for (byte b : keyOctets) codes.keyByte(key, b);
        codes.may(7, key, true);                              // sender 7 may use it
        codes.trip(1);                                        // trip 1 begins: all counters are 0

        // The sender's side: the code of the identity, the trip, the counter and the row, cut to 64 bits.
        byte[] head = ByteBuffer.allocate(13).put((byte) 7).putInt(1).putLong(1).array();
        for (byte b : head) codes.octet(b);
        for (byte b : row) codes.octet(b);
        byte[] code = new byte[codes.code(key, 64)];          // 8 octets; the message is empty then
        for (int i = 0; i < code.length; i++) code[i] = codes.out(i);

        // The other side: the row, the code behind it, and the counter's lowest eight bits.
        for (byte b : row) codes.octet(b);
        for (byte b : code) codes.octet(b);
        int taken = codes.verify(key, 7, 1);                  // 1: good, and the sender's counter is 1
        for (byte b : row) codes.octet(b);
        for (byte b : code) codes.octet(b);
        int again = codes.verify(key, 7, 1);                  // 0: it was sent before
        int synced = codes.fresh(7, 1000);                    // 1: the counter told whole, where verify answers 2

        int second = codes.key();                             // 2
        for (byte b : ByteBuffer.allocate(16).putLong(8, 1).array()) codes.octet(b);
        codes.encipher(key);                                  // OUT is E(key, 8 octets 0 and the counter 1)
        byte[] wrapped = new byte[16];
        for (int i = 0; i < 16; i++) wrapped[i] = (byte) (newOctets[i] ^ codes.out(i));
        for (byte b : ByteBuffer.allocate(24).putLong(1).put(wrapped).array()) codes.octet(b);
        byte[] seal = new byte[codes.code(key, 64)];
        for (int i = 0; i < seal.length; i++) seal[i] = codes.out(i);

        for (byte b : wrapped) codes.octet(b);
        for (byte b : seal) codes.octet(b);
        int installed = codes.install(second, key, 1);        // 1: the second key has the new octets
        int value = codes.check(second);                      // its check value, to be compared with the giver's

        Checks.due("the first key", key, 1);
        Checks.due("octets of the code", code.length, 8);
        Checks.due("the row", taken, 1);
        Checks.due("the row again", again, 0);
        Checks.due("the counter told whole", synced, 1);
        Checks.due("the second key", second, 2);
        Checks.due("the wrapped key", installed, 1);
        Checks.due("the check value", value, Checks.checkValue(newOctets));
    }

    private static void linesStandInThisFile(List<String> readme, List<String> file) {
        boolean inExample = false;
        int examples = 0;
        int at = 0;
        for (String line : readme) {
            if (line.startsWith("```")) {
                inExample = line.equals("```java");
                examples += inExample ? 1 : 0;
            } else if (inExample && !line.isBlank()) {
                int found = placeFrom(file, at, line.strip());
                Checks.due("this file has README.md's line: " + line, found >= 0 ? 1 : 0, 1);
                at = found >= 0 ? found + 1 : at;
            }
        }
        Checks.due("examples in README.md", examples, 2);
    }

    private static int placeFrom(List<String> file, int from, String line) {
        for (int i = from; i < file.size(); i++) {
            if (file.get(i).strip().equals(line)) {
                return i;
            }
        }
        return -1;
    }
}
