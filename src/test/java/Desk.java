import java.nio.charset.StandardCharsets;

/** An archive whose tape is written with texts: the tests' way to it. A sign of a text is one byte. */
final class Desk {
    static final int REFUSED_INDEX = -101;
    static final int REFUSED_ARGUMENT = -102;
    static final int REFUSED_STATE = -103;
    /** What is due nowhere: an exception that the machine or the library threw, and not the class itself. */
    static final int THREW_BY_ITSELF = -104;

    private final MailArchive archive = new MailArchive();
    private int calls;

    /** The archive, for one call: an object is used for 512 of them at most. */
    MailArchive archive() {
        calls++;
        if (calls > 512) {
            throw new AssertionError("the test asks too much of one object");
        }
        return archive;
    }

    /** Writes a text to the tape. */
    Desk type(String text) {
        byte[] bytes = text.getBytes(StandardCharsets.ISO_8859_1);
        for (int from = 0; from < bytes.length; from += 20) {
            int n = Math.min(20, bytes.length - from);
            int[] five = new int[5];
            for (int i = 0; i < n; i++) {
                five[i / 4] |= (bytes[from + i] & 255) << 24 - i % 4 * 8;
            }
            archive().feed(five[0], five[1], five[2], five[3], five[4]);
            if (archive().end(n) == MailArchive.NONE) {
                throw new AssertionError("the tape is too short for the test");
            }
        }
        return this;
    }

    int add(String mail) {
        type(mail);
        return add();
    }

    int add() {
        try {
            return archive().add();
        } catch (IllegalStateException e) {
            return refusal(e, "IllegalStateException", REFUSED_STATE);
        }
    }

    int remove(int message) {
        try {
            archive().remove(message);
            return 0;
        } catch (IndexOutOfBoundsException e) {
            return refusal(e, "IndexOutOfBoundsException", REFUSED_INDEX);
        }
    }

    int tag(int message, boolean on, String tag) {
        type(tag);
        try {
            return archive().tag(message, on) ? 1 : 0;
        } catch (IndexOutOfBoundsException e) {
            return refusal(e, "IndexOutOfBoundsException", REFUSED_INDEX);
        } catch (IllegalArgumentException e) {
            return refusal(e, "IllegalArgumentException", REFUSED_ARGUMENT);
        } catch (IllegalStateException e) {
            return refusal(e, "IllegalStateException", REFUSED_STATE);
        }
    }

    int search(String query) {
        type(query);
        try {
            return archive().search();
        } catch (IllegalArgumentException e) {
            return refusal(e, "IllegalArgumentException", REFUSED_ARGUMENT);
        }
    }

    private static int refusal(RuntimeException e, String name, int refused) {
        StackTraceElement[] calls = e.getStackTrace();
        boolean thrownByTheClass = calls.length > 0 && calls[0].getClassName().equals("MailArchive");
        return thrownByTheClass && e.getClass().getSimpleName().equals(name) ? refused : THREW_BY_ITSELF;
    }

    /** What a query finds, as "2 0 1", or where it is refused, as "fault 3". */
    String find(String query) {
        int n = search(query);
        if (n == REFUSED_ARGUMENT) {
            return "fault " + archive().fault();
        }
        if (archive().fault() != 0) {
            return "found " + n + " and fault " + archive().fault();
        }
        StringBuilder all = new StringBuilder();
        for (int k = 0; k < n; k++) {
            all.append(k == 0 ? "" : " ").append(archive().found(k));
        }
        return all.toString();
    }

    /** The bytes that at() tells from k = 0 on. */
    String text(int message, int field, int i) {
        StringBuilder all = new StringBuilder();
        int b = archive().at(message, field, i, 0);
        for (int k = 1; b != MailArchive.NONE; k++) {
            all.append((char) b);
            b = archive().at(message, field, i, k);
        }
        return all.toString();
    }

    /** All words of a field, its tags (4) or references (6), with a blank between. */
    String texts(int message, int field) {
        StringBuilder all = new StringBuilder();
        String next = text(message, field, 0);
        for (int i = 1; !next.isEmpty(); i++) {
            all.append(i == 1 ? "" : " ").append(next);
            next = text(message, field, i);
        }
        return all.toString();
    }

    /** What texts() tells of a mail that comes alone. */
    static String textsOf(String mail, int field) {
        Desk desk = new Desk();
        desk.add(mail);
        return desk.texts(0, field);
    }

    /** What about() tells of a mail that comes alone. */
    static int aboutOf(String mail, int what) {
        Desk desk = new Desk();
        desk.add(mail);
        return desk.archive().about(0, what);
    }
}
