import java.nio.charset.StandardCharsets;

/** What the tests of CardLine share: they count and print the answers that are not the due ones. */
final class Check {
    private static int looked = 0;
    private static int wrong = 0;

    /** A call that answers a number. */
    interface Call {
        int answer();
    }

    private Check() {
    }

    static void due(String call, long got, long want) {
        looked++;
        if (got != want) {
            wrong++;
            System.out.println(call + " answered " + got + ", due is " + want);
        }
    }

    static void dueDouble(String call, double got, double want) {
        looked++;
        if (got != want) {
            wrong++;
            System.out.println(call + " answered " + got + ", due is " + want);
        }
    }

    static void dueText(String call, String got, String want) {
        looked++;
        if (!got.equals(want)) {
            wrong++;
            System.out.println(call + " answered " + got + ", due is " + want);
        }
    }

    /** The exception must be of the very class: what the machine throws are subclasses. */
    static void dueThrow(String call, Class<? extends RuntimeException> want, Call made) {
        looked++;
        String got;
        try {
            got = "the answer " + made.answer();
        } catch (RuntimeException e) {
            if (e.getClass() == want) {
                return;
            }
            got = e.toString();
        }
        wrong++;
        System.out.println(call + " gave " + got + ", due is " + want.getSimpleName());
    }

    static void dueIndex(String call, Call made) {
        dueThrow(call, IndexOutOfBoundsException.class, made);
    }

    static void dueArgument(String call, Call made) {
        dueThrow(call, IllegalArgumentException.class, made);
    }

    static void append(CardLine line, String text) {
        byte[] bytes = text.getBytes(StandardCharsets.ISO_8859_1);
        for (int from = 0; from < bytes.length; from += 8) {
            long number = 0;
            for (int at = from; at < Math.min(from + 8, bytes.length); at++) {
                number = number << 8 | bytes[at] & 0xFF;
            }
            if (line.append(number) < 0) {
                throw new IllegalStateException("the buffer is full");
            }
        }
    }

    static int load(CardLine line, String text) {
        append(line, text);
        return line.load();
    }

    static int order(CardLine line, int lot, String text) {
        append(line, text);
        return line.order(lot);
    }

    /** A new object with a description that has no error. */
    static CardLine line(String text) {
        CardLine line = new CardLine();
        int answer = load(line, text);
        if (answer < 0) {
            throw new IllegalStateException("load() of " + text + " answered " + answer);
        }
        return line;
    }

    /** Ends a test's main method: with 1 if an answer was not the due one. */
    static void end(String name) {
        System.out.println(name + ": " + looked + " answers, " + wrong + " of them not as due");
        if (wrong > 0 || looked == 0) {
            System.exit(1);
        }
    }
}
