import java.nio.charset.StandardCharsets;

/** Feeds texts to an object by twenty bytes a call. */
final class Teller {
    private Teller() {
    }

    static byte[] bytes(String text) {
        return text.getBytes(StandardCharsets.ISO_8859_1);
    }

    static void feed(GooseBorder x, byte[] text) {
        for (int at = 0; at < text.length; at += 20) {
            int[] five = new int[5];
            for (int i = 0; i < 20; i++) {
                int b = at + i < text.length ? text[at + i] & 255 : 0;
                five[i / 4] = five[i / 4] << 8 | b;
            }
            x.feed(five[0], five[1], five[2], five[3], five[4]);
        }
        x.end(text.length);
    }

    static int tell(GooseBorder x, int sort, int at, String text) {
        x.end(0);
        feed(x, bytes(text));
        return x.text(sort, at);
    }

    static GooseBorder told(String border, String night, String law, String dawn) {
        GooseBorder x = new GooseBorder();
        String[] texts = {border, night, law, dawn};
        for (int sort = 0; sort < 4; sort++) {
            if (texts[sort] != null && tell(x, sort, -1, texts[sort]) < 0) {
                throw new IllegalStateException(texts[sort] + " has fault " + x.fault(0) + " at " + x.fault(1));
            }
        }
        return x;
    }
}
