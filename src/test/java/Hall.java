import java.nio.charset.StandardCharsets;
import java.util.NoSuchElementException;

/** What the project's tests share: halls made of a text, and answers compared with what is due. */
final class Hall {
    private static int wrong;
    private static int looked;
    private static String about = "";

    private Hall() { }

    /** The numbers that feed() wants for a text, five for each twenty bytes, blanks behind it. */
    static int[] numbers(byte[] bytes) {
        int[] numbers = new int[(bytes.length + 19) / 20 * 5];
        for (int i = 0; i < numbers.length * 4; i++) {
            int b = i < bytes.length ? bytes[i] & 255 : ' ';
            numbers[i / 4] = numbers[i / 4] << 8 | b;
        }
        return numbers;
    }

    static byte[] bytes(String text) {
        return text.getBytes(StandardCharsets.ISO_8859_1);
    }

    static int tell(KnobHall hall, String text) {
        int[] n = numbers(bytes(text));
        for (int i = 0; i < n.length; i += 5) {
            hall.feed(n[i], n[i + 1], n[i + 2], n[i + 3], n[i + 4]);
        }
        return hall.text(text.length());
    }

    static KnobHall of(String text) {
        KnobHall hall = new KnobHall();
        if (tell(hall, text) < 0) {
            due("the text " + text, hall.fault(0) * 1000 + hall.fault(1), 0);
        }
        return hall;
    }

    static int letters(String name) {
        int letters = 0;
        for (int i = 0; i < 6; i++) {
            letters = letters << 5 | (i < name.length() ? name.charAt(i) - 'a' + 1 : 0);
        }
        return letters;
    }

    /** -1000, -1001 for the two exceptions that the document names. */
    static int person(KnobHall hall, int person, int what) {
        try {
            return hall.person(person, what);
        } catch (IndexOutOfBoundsException e) {
            return -1000;
        } catch (NoSuchElementException e) {
            return -1001;
        }
    }

    /** What the answers that are looked at from now on are about. */
    static void about(String sentence) {
        about = sentence;
    }

    static int looked() {
        return looked;
    }

    static void due(String what, long got, long want) {
        looked++;
        if (got != want) {
            wrong++;
            System.out.println(about + what + " answered " + got + ", due is " + want);
        }
    }

    static void due(String what, boolean got, boolean want) {
        due(what, got ? 1 : 0, want ? 1 : 0);
    }

    static void dueFault(String text, int fault, int place) {
        KnobHall hall = new KnobHall();
        due("text of " + text, tell(hall, text), -1);
        due("fault(0) of " + text, hall.fault(0), fault);
        due("fault(1) of " + text, hall.fault(1), place);
    }

    static void end() {
        System.out.println(looked + " answers looked at, " + wrong + " wrong");
        if (wrong != 0 || looked == 0) {
            System.exit(1);
        }
    }
}
