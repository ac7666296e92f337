import java.util.Arrays;
import java.util.HashSet;
import java.util.Set;
import java.util.TreeSet;
import java.util.regex.Matcher;
import java.util.regex.Pattern;

/**
 * A second reading of the document, by patterns over whole LINES: a LINE can't go on at the first
 * character with which no more characters could make it match.
 */
final class Model {
    private static final String N = "\\d{1,5}";
    private static final String WORD = "[a-z-]{1,30}(=" + N + ")?";
    private static final Pattern REQUEST_LINE = Pattern.compile("(GET|HEAD) /(" + N + ")(/(" + N + "))?\n");
    private static final Pattern THING_LINE = Pattern.compile("(PUT) /(" + N + ")\n");
    private static final Pattern NAME = Pattern.compile("[a-z-]{1,20}:");
    private static final Pattern RANGE = Pattern.compile(" ?bytes=((" + N + ")-(" + N + ")?|-(" + N + "))\n");
    private static final Pattern VERSIONS =
        Pattern.compile(" ?(\\*|\"" + N + "\"(, \"" + N + "\"){0,7})\n");
    private static final Pattern LIST = Pattern.compile(" ?" + WORD + "(, " + WORD + ")*\n");
    private static final Pattern LENGTH = Pattern.compile(" ?(" + N + ")\n");
    private static final Pattern KEYS = Pattern.compile(" ?[a-h]( [a-h]){0,7}\n");
    private static final Pattern ANYTHING = Pattern.compile("[ -~]*\n");

    int goodTexts = 0;
    int fault = -1;
    private int[] told = null;
    private Set<Integer> versions = new TreeSet<>();

    private int[] draft;
    private Set<Integer> draftVersions;

    boolean read(int kind, String tape) {
        draft = new int[] {0, 0, 0, 0, -1, -1, 0, 0, 0, 0, 0, 0, -1, -1, -1, 0, -1, -1};
        draftVersions = new TreeSet<>();
        fault = faultOf(kind, tape);
        if (fault >= 0) {
            return false;
        }
        goodTexts++;
        told = draft;
        versions = draftVersions;
        return true;
    }

    int told(int what) {
        return told == null || what < 0 || what > 17 ? -1 : told[what];
    }

    boolean matches(int version) {
        return told != null && (told[6] == 1 || versions.contains(version));
    }

    /** By looking at every byte of the thing. */
    int bytes(int length, int what) {
        if (told == null || length < 0 || length > 255 || what < 0 || what > 2) {
            return -1;
        }
        int first = -1;
        int last = -1;
        int many = 0;
        for (int at = 0; at < length; at++) {
            boolean wanted = told[3] == 0
                || told[3] == 1 && at >= told[4] && at <= told[5]
                || told[3] == 2 && at >= told[4]
                || told[3] == 3 && length - at <= told[4];
            if (wanted) {
                first = many == 0 ? at : first;
                last = at;
                many++;
            }
        }
        return what == 0 ? first : what == 1 ? last : many;
    }

    private int faultOf(int kind, String tape) {
        int start = tape.indexOf('\n') + 1;
        String line = start == 0 ? tape : tape.substring(0, start);
        int stuck = firstLine(kind, line);
        Set<String> names = new HashSet<>();
        while (stuck < 0) {
            if (tape.startsWith("\n", start)) {
                return start + 1 < tape.length() ? start + 1 : -1;
            }
            int end = tape.indexOf('\n', start) + 1;
            line = tape.substring(start, end == 0 ? tape.length() : end);
            int inLine = line(kind, line, names);
            stuck = inLine < 0 ? -1 : start + inLine;
            start = end;
        }
        return stuck;
    }

    private int firstLine(int kind, String line) {
        Pattern pattern = kind == 0 ? REQUEST_LINE : THING_LINE;
        int stuck = stuckIn(pattern, line);
        Matcher digits = Pattern.compile("[A-Z]+ /(" + N + ")(/(" + N + "))?").matcher(line);
        if (digits.lookingAt() && (stuck < 0 || stuck >= digits.end(1))) {
            if (Integer.parseInt(digits.group(1)) > 31) {
                return digits.start(1);
            }
            boolean variant = kind == 0 && digits.group(3) != null && (stuck < 0 || stuck >= digits.end(3));
            if (variant && Integer.parseInt(digits.group(3)) > 3) {
                return digits.start(3);
            }
        }
        if (stuck < 0) {
            Matcher parts = matched(pattern, line);
            draft[0] = Arrays.asList("GET", "HEAD", "PUT").indexOf(parts.group(1)) + 1;
            draft[1] = Integer.parseInt(parts.group(2));
            draft[2] = kind == 0 && parts.group(4) != null ? Integer.parseInt(parts.group(4)) : 0;
        }
        return stuck;
    }

    private int line(int kind, String line, Set<String> names) {
        if (line.matches("(?s)[a-z-]{21}.*")) {
            return 0;
        }
        int colon = line.indexOf(':');
        int stuck = stuckIn(NAME, colon < 0 ? line : line.substring(0, colon + 1));
        if (stuck >= 0) {
            return stuck;
        }
        String name = line.substring(0, colon);
        if (!names.add(name)) {
            return 0;
        }
        int inValue = value(kind, name, line.substring(colon + 1));
        return inValue < 0 ? -1 : colon + 1 + inValue;
    }

    private int value(int kind, String name, String value) {
        switch (kind + name) {
            case "0range":
                return range(value);
            case "0if-none-match":
                return versions(value);
            case "0cache-control":
            case "1cache-control":
                return list(kind, value);
            case "1length":
                return length(value);
            case "1keys":
                return keys(value);
            default:
                return stuckIn(ANYTHING, value);
        }
    }

    private int range(String value) {
        int stuck = stuckIn(RANGE, value);
        if (stuck < 0) {
            Matcher parts = matched(RANGE, value);
            int last = parts.group(4) == null ? -1 : Integer.parseInt(parts.group(4));
            int from = parts.group(2) == null ? -1 : Integer.parseInt(parts.group(2));
            int to = parts.group(3) == null ? -1 : Integer.parseInt(parts.group(3));
            if (last >= 0) {
                setRange(3, last, -1);
            } else if (to < 0) {
                setRange(2, from, -1);
            } else if (from <= to) {
                setRange(1, from, to);
            }
        }
        return stuck;
    }

    private void setRange(int form, int from, int to) {
        draft[3] = form;
        draft[4] = from;
        draft[5] = to;
    }

    private int versions(String value) {
        int stuck = stuckIn(VERSIONS, value);
        if (stuck < 0 && value.contains("*")) {
            draft[6] = 1;
        } else if (stuck < 0) {
            for (String version : value.trim().split(", ")) {
                draftVersions.add(Integer.parseInt(version.replace("\"", "")));
            }
            draft[7] = draftVersions.size();
        }
        return stuck;
    }

    private int list(int kind, String value) {
        int stuck = stuckIn(LIST, value);
        Matcher tooLong = Pattern.compile("[a-z-]{31}").matcher(value);
        if (stuck >= 0 && tooLong.find() && tooLong.end() - 1 == stuck) {
            return tooLong.start();
        }
        if (stuck < 0) {
            for (String word : value.trim().split(", ")) {
                count(kind, word);
            }
        }
        return stuck;
    }

    private void count(int kind, String word) {
        int sign = word.indexOf('=');
        int number = sign < 0 ? 1 : Integer.parseInt(word.substring(sign + 1));
        String form = sign < 0 ? word : word.substring(0, sign) + "=N";
        if (kind == 0 && form.equals("max-stale")) {
            draft[13] = -2;
            return;
        }
        String[] counting = kind == 0
            ? new String[] {"no-cache", "only-if-cached", "max-age=N", "max-stale=N", "min-fresh=N", "", "", ""}
            : new String[] {"no-cache", "", "max-age=N", "", "", "no-store", "stale-if-error=N",
                "stale-while-revalidate=N"};
        int at = Arrays.asList(counting).indexOf(form);
        if (at >= 0) {
            draft[10 + at] = number;
        }
    }

    private int length(String value) {
        int stuck = stuckIn(LENGTH, value);
        Matcher digits = Pattern.compile(" ?(" + N + ")").matcher(value);
        if (digits.lookingAt() && Integer.parseInt(digits.group(1)) > 255) {
            return digits.start(1);
        }
        if (stuck < 0) {
            draft[8] = Integer.parseInt(value.trim());
        }
        return stuck;
    }

    private int keys(String value) {
        int stuck = stuckIn(KEYS, value);
        if (stuck < 0) {
            for (String key : value.trim().split(" ")) {
                draft[9] |= 1 << "abcdefgh".indexOf(key);
            }
        }
        return stuck;
    }

    private static Matcher matched(Pattern pattern, String line) {
        Matcher matcher = pattern.matcher(line);
        if (!matcher.matches()) {
            throw new IllegalStateException("the model is wrong of " + line);
        }
        return matcher;
    }

    /** hitEnd tells whether the pattern wanted more than the characters so far. */
    private static int stuckIn(Pattern pattern, String line) {
        boolean matches = false;
        for (int length = 0; length <= line.length(); length++) {
            Matcher matcher = pattern.matcher(line.substring(0, length));
            matches = matcher.matches();
            if (!matches && !matcher.hitEnd()) {
                return length - 1;
            }
        }
        return matches ? -1 : line.length();
    }
}
