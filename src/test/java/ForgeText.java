import java.nio.charset.StandardCharsets;
import java.util.ArrayList;
import java.util.List;

/** Texts as the parameters of feed, with spaces to fill the last twenty bytes. */
final class ForgeText {
    private ForgeText() { }

    static List<Object[]> words(String text) {
        byte[] bytes = text.getBytes(StandardCharsets.ISO_8859_1);
        List<Object[]> all = new ArrayList<>();
        for (int start = 0; start < bytes.length; start += 20) {
            Object[] words = new Object[5];
            for (int word = 0; word < 5; word++) {
                int value = 0;
                for (int at = start + 4 * word; at < start + 4 * word + 4; at++) {
                    value = value << 8 | (at < bytes.length ? bytes[at] & 255 : ' ');
                }
                words[word] = value;
            }
            all.add(words);
        }
        return all;
    }

    static void feed(ForgeScheduler forge, String text) {
        for (Object[] words : words(text)) {
            forge.feed((int) words[0], (int) words[1], (int) words[2], (int) words[3], (int) words[4]);
        }
    }

    static int load(ForgeScheduler forge, String text) {
        feed(forge, text);
        return forge.load(text.length());
    }

    static ForgeScheduler forge(String text) {
        ForgeScheduler forge = new ForgeScheduler();
        int answer = load(forge, text);
        if (answer < 0) {
            throw new IllegalArgumentException("the text of a test has an error: " + answer + " at " + forge.errorPosition());
        }
        return forge;
    }

    static int letters(String name) {
        int code = 0;
        for (int i = 0; i < 6; i++) {
            code = code << 5 | (i < name.length() ? name.charAt(i) - 'a' + 1 : 0);
        }
        return code;
    }
}
