import java.util.Random;

/**
 * Runs of calls, always the same ones, on the class and on the Model: all answers are alike.
 * An object is used for 512 calls at most.
 */
public final class ModelTest {
    private static final String[] NAMES = {"From", "To", "Subject", "Date", "Message-ID", "References", "In-Reply-To",
        "Content-Type", "Content-Transfer-Encoding", "X-9", "subject", "DATE", "from", "tO", "message-id", "references"};
    private static final String[] WORDS = {"a", "b", "ab", "abc", "one", "Two", "THREE", "x1", "h\u00e9llo", "\u00f6",
        "abcdefghijklmnop", "abcdefghijklmnopq", "abcdefghijklmnopqrs", "not", "or", "and", "-", "."};
    private static final String[] IDS = {"a", "b", "c", "d", "e@f", "g.h", "A", "a b", "", "<x"};
    private static final String[] TYPES = {"text/plain", "TEXT/Plain ; charset=utf-8", "text/html", "", ";boundary=x",
        "multipart/mixed; boundary=x", "Multipart/Alternative;charset=\"u\"; BOUNDARY=\"y z\" ", "multipart/;boundary=\"\"",
        "multipart/mixed; boundary=x; boundary=y", "multipart/mixed;boundary=\"x\";", "multipart/x; boundary = x",
        "multipart/x;boundary= x", "multipart/x;boundary=\"x \"", "multipart/x;boundary;boundary=x",
        "multipart/mixed", "multipart/mixed;\n boundary=--", "multipart/mixed; a;boundary=\"b", "text/plain x"};
    private static final String[] CODINGS = {"base64", "Base64 ", "quoted-printable", "QUOTED-Printable", "7bit", ""};
    private static final String[] MARKS = {"--x", "--x--", "--y z", "--y z--", "--x ", "--x-- ", "--x \t", "----", "------",
        "--\"b", "-- x", "-- x--", "--x --", "--xx", "-x", "--x-", "--"};
    private static final String[] MONTHS = {"jan", "Feb", "MARCH", "apr.", "May1", "June", "jul", "aug", "Sept", "oct",
        "nov", "december", "foo", "fe"};
    private static final String[] ZONES = {"", " +0100", " -0230", " GMT", " +2400", " +2359", " -2359", " +0160", ",-0001 x"};
    private static final String[] SIGNS = {" ", " ", " ", "", "(", ")", " or ", " and ", " not ", "not", "(", ")", "\"", "\t"};
    private static final String[] FIELDS = {"from:", "to:", "subject:", "body:", "tag:", "id:", "thread:", "date:", "From:",
        "", "", "", "x:"};
    private static final String[] DAYS = {"19700101", "19700102", "20000229", "19000229", "20010228", "00000101", "99991231",
        "20230631", "1970010", "19691231", "20241301", "20240001", ""};
    private static final String[] TAGS = {"a", "b", "c", "aa", "ab", "0", "9z", "abcdefghijkl", "abcdefghijklm", "A", "",
        "a b", "d", "e", "f", "g", "b0"};

    private final Random random;
    private final Due due;
    private final int run;
    private final Desk desk = new Desk();
    private final Model model = new Model();
    private int left = 512;

    private ModelTest(int run, Due due) {
        this.run = run;
        this.due = due;
        this.random = new Random(run);
    }

    public static void main(String[] args) {
        int runs = args.length > 0 ? Integer.parseInt(args[0]) : 20000;
        Due due = new Due();
        for (int run = 0; run < runs; run++) {
            new ModelTest(run, due).go();
        }
        due.end();
    }

    private void go() {
        int most = 30 + random.nextInt(480);
        while (left > 512 - most) {
            int kind = random.nextInt(20);
            if (kind < 5) {
                type(random.nextInt(8) == 0 ? noise(60) : mail());
                same("add", desk.add(), model.add());
            } else if (kind < 6) {
                int message = number();
                same("remove " + message, desk.remove(message), model.remove(message));
            } else if (kind < 10) {
                tag();
            } else if (kind < 11) {
                end();
            } else if (kind < 16) {
                search();
            } else {
                look();
            }
        }
    }

    private void same(String call, long got, long want) {
        left--;
        due.is("run " + run + ": " + call, got, want);
    }

    private int number() {
        return random.nextInt(Math.max(1, model.count(1) + 1)) - random.nextInt(30) / 29;
    }

    private void type(String text) {
        // what is typed leaves some calls for what comes then
        int room = Math.max(0, Math.min(1200 - model.count(5), (left - 6) / 2 * 20));
        String cut = text.length() > room ? text.substring(0, room) : text;
        left -= (cut.length() + 19) / 20 * 2;
        desk.type(cut);
        for (int from = 0; from < cut.length(); from += 20) {
            int n = Math.min(20, cut.length() - from);
            int[] five = new int[5];
            for (int i = 0; i < n; i++) {
                five[i / 4] |= cut.charAt(from + i) << 24 - i % 4 * 8;
            }
            model.feed(five);
            model.end(n);
        }
    }

    private void end() {
        int[] five = new int[5];
        for (int i = 0; i < 5; i++) {
            five[i] = random.nextInt();
        }
        if (random.nextBoolean()) {
            desk.archive().feed(five[0], five[1], five[2], five[3], five[4]);
            model.feed(five);
            left--;
        }
        int n = random.nextInt(24) - 2;
        same("end " + n, desk.archive().end(n), model.end(n));
    }

    private void tag() {
        String tag = pick(TAGS);
        int message = number();
        boolean on = random.nextInt(4) > 0;
        type(tag);
        same("tag " + message + " " + tag, desk.tag(message, on, ""), model.tag(message, on));
    }

    private void search() {
        String query = query();
        type(query);
        same("search <" + query + ">", desk.search(""), model.search());
        same("fault <" + query + ">", desk.archive().fault(), model.fault());
        for (int k = 0; k <= model.count(2) && k < 4 && left > 0; k++) {
            same("found " + k + " <" + query + ">", desk.archive().found(k), model.found(k));
        }
    }

    private void look() {
        int what = random.nextInt(8) - 1;
        same("count " + what, desk.archive().count(what), model.count(what));
        if (left > 6 && random.nextInt(3) == 0) {
            same("conversations", desk.archive().conversations(), model.conversations());
            for (int k = random.nextInt(3) - 1; k < 3; k++) {
                same("thread " + k, desk.archive().thread(k), model.thread(k));
            }
        }
        for (int n = random.nextInt(12); n > 0 && left > 0; n--) {
            lookAt(number());
        }
    }

    private void lookAt(int message) {
        if (random.nextInt(3) > 0) {
            int what = random.nextInt(13) - 1;
            same("about " + message + " " + what, desk.archive().about(message, what), model.about(message, what));
            return;
        }
        int field = random.nextInt(9) - 1;
        int i = random.nextInt(4) - random.nextInt(10) / 9;
        int k = random.nextInt(5) - 1;
        same("at " + message + " " + field + " " + i + " " + k,
                desk.archive().at(message, field, i, k), model.at(message, field, i, k));
    }

    // ---- what is typed

    private String pick(String[] row) {
        return row[random.nextInt(row.length)];
    }

    private String noise(int most) {
        String likely = "\n\r \t:;=?-\"<>_*(),.aAbBfz09+/\u0080\u00ff\0";
        StringBuilder all = new StringBuilder();
        for (int n = random.nextInt(most); n > 0; n--) {
            all.append(random.nextInt(5) == 0 ? (char) random.nextInt(256)
                    : likely.charAt(random.nextInt(likely.length())));
        }
        return all.toString();
    }

    private String lineEnd() {
        return random.nextInt(3) == 0 ? "\r\n" : "\n";
    }

    private String words(int most) {
        StringBuilder all = new StringBuilder();
        for (int n = random.nextInt(most); n > 0; n--) {
            all.append(pick(WORDS)).append(random.nextInt(6) == 0 ? "" : random.nextInt(9) == 0 ? "\t" : " ");
        }
        return all.toString();
    }

    private String mail() {
        StringBuilder all = new StringBuilder();
        for (int n = random.nextInt(8); n > 0; n--) {
            all.append(field(pick(NAMES)));
        }
        if (random.nextInt(5) == 0) {
            all.append(noise(20));
        }
        all.append(random.nextInt(10) == 0 ? "" : lineEnd()).append(body(0));
        return all.toString();
    }

    private String field(String name) {
        String value = switch (name.toLowerCase()) {
            case "date" -> date();
            case "message-id" -> ids(2);
            case "references" -> ids(random.nextInt(20) == 0 ? 25 : 5);
            case "in-reply-to" -> "see " + ids(3);
            case "content-type" -> pick(TYPES);
            case "content-transfer-encoding" -> pick(CODINGS);
            default -> encoded();
        };
        String fold = random.nextInt(6) == 0 ? value.replaceFirst(" ", "\n \t") : value;
        return name + (random.nextInt(15) == 0 ? " :" : ":") + (random.nextInt(4) == 0 ? "" : " ") + fold + lineEnd();
    }

    private String ids(int most) {
        StringBuilder all = new StringBuilder();
        for (int n = random.nextInt(most) + random.nextInt(2); n > 0; n--) {
            String id = random.nextInt(40) == 0 ? "l".repeat(59 + random.nextInt(3)) : pick(IDS);
            all.append(random.nextInt(12) == 0 ? "" : "<").append(id).append(random.nextInt(12) == 0 ? "" : ">")
                    .append(random.nextInt(3) == 0 ? "" : " ");
        }
        return all.toString();
    }

    private String date() {
        if (random.nextInt(10) == 0) {
            return noise(10);
        }
        String name = random.nextInt(3) == 0 ? "Sat, " : random.nextInt(9) == 0 ? "x1 " : "";
        String[] years = {"1970", "2000", "2024", "99", "00", "49", "50", "70", "2999", "3000", "1969", "100", "1900"};
        String[] times = {"00:00", "00:01", "23:59", "24:00", "12:60", "12:30:60", "12:30:61", "1:00", "05:06:07", "12-30"};
        return name + (random.nextInt(33)) + (random.nextInt(5) == 0 ? ", " : " ") + pick(MONTHS) + " " + pick(years) + " "
                + pick(times) + pick(ZONES);
    }

    private String encoded() {
        StringBuilder all = new StringBuilder();
        String[] charsets = {"utf-8", "UTF-8", "us-ascii", "US-Ascii", "latin1", ""};
        String[] kinds = {"q", "Q", "b", "B", "x", ""};
        String[] texts = {"a=C3=b6", "_", "YWI", "YWJj", "YQ==", "", "a b", "a=4", "a=", "==41", "a=G1", "W=C3=B6rld", "aGVsbG8=="};
        for (int n = random.nextInt(5); n > 0; n--) {
            if (random.nextBoolean()) {
                all.append(pick(WORDS));
            } else {
                all.append("=?").append(pick(charsets)).append('?').append(pick(kinds)).append('?').append(pick(texts))
                        .append(random.nextInt(9) == 0 ? "?" : "?=");
            }
            all.append(random.nextInt(3) == 0 ? "" : random.nextInt(3) == 0 ? "\t " : " ");
        }
        return all.toString();
    }

    private String body(int depth) {
        StringBuilder all = new StringBuilder();
        for (int n = random.nextInt(6); n > 0; n--) {
            int kind = random.nextInt(10);
            if (kind < 3) {
                all.append(pick(MARKS)).append(lineEnd());
                if (depth < 5 && random.nextBoolean()) {
                    all.append(random.nextBoolean() ? field("Content-Type") : "")
                            .append(random.nextBoolean() ? field("Content-Transfer-Encoding") : "")
                            .append(random.nextInt(5) > 0 ? lineEnd() : "").append(body(depth + 1));
                }
            } else if (kind < 5) {
                all.append("YWJj ZGVm=").append(lineEnd());
            } else if (kind < 7) {
                all.append("=41b=").append(random.nextInt(3) == 0 ? " " : "").append(lineEnd()).append("c=3d=3 ");
            } else {
                all.append(words(8)).append(lineEnd());
            }
        }
        if (random.nextInt(60) == 0) {
            all.append("ab ".repeat(random.nextInt(230)));
        }
        return all.toString();
    }

    private String query() {
        if (random.nextInt(12) == 0) {
            return "(".repeat(18 + random.nextInt(4)) + "a" + ")".repeat(18 + random.nextInt(4));
        }
        StringBuilder all = new StringBuilder();
        for (int n = random.nextInt(5); n > 0; n--) {
            String field = pick(FIELDS);
            all.append(random.nextInt(3) == 0 ? pick(SIGNS) : "").append(field).append(what(field)).append(pick(SIGNS));
        }
        return random.nextInt(30) == 0 ? noise(15) : all.toString();
    }

    private String what(String field) {
        switch (field) {
            case "tag:":
                return pick(TAGS);
            case "id:":
                return pick(IDS);
            case "thread:":
                return random.nextInt(8) == 0 ? "000000000" + random.nextInt(3) : "" + random.nextInt(6);
            case "date:":
                return random.nextInt(8) == 0 ? "..x....." : pick(DAYS) + (random.nextInt(9) == 0 ? "." : "..") + pick(DAYS);
            default:
                int kind = random.nextInt(8);
                return kind < 2 ? "\"" + words(4) + "\"" : kind < 3 ? "*" : kind < 5 ? pick(WORDS) + "*"
                        : kind < 6 ? pick(WORDS) + "-" + pick(WORDS) : pick(WORDS);
        }
    }
}
