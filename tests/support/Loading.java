import java.nio.charset.StandardCharsets;

/** Objects that are set up by a text, for the tests. */
final class Loading {
    private Loading() {
    }

    static InventedBirthdays of(String text) {
        InventedBirthdays x = new InventedBirthdays();
        load(x, text);
        return x;
    }

    static int load(InventedBirthdays x, String text) {
        fill(x, text);
        return x.load(text.length());
    }

    /** Appends the text, a byte a sign, and behind it signs that start no token up to a multiple of 20 bytes. */
    static void fill(InventedBirthdays x, String text) {
        byte[] bytes = text.getBytes(StandardCharsets.ISO_8859_1);
        for (int at = 0; at < bytes.length; at += 20) {
            int[] words = new int[5];
            for (int i = 0; i < 20; i++) {
                int value = at + i < bytes.length ? bytes[at + i] & 255 : '#';
                words[i / 4] = words[i / 4] << 8 | value;
            }
            x.append(words[0], words[1], words[2], words[3], words[4]);
        }
    }

    /** 12/30 of the year 99; ten changes can be undone, the last one let 360 days pass. Each of the lines ends with a semicolon. */
    static InventedBirthdays atTheLastDay(String lines) {
        InventedBirthdays x = of("registry 0 0;" + lines + "days 359");
        for (int i = 0; i < 49; i++) {
            x.advance(720);
        }
        x.advance(360);
        return x;
    }
}
