import java.nio.charset.StandardCharsets;

/** What the tests of CardLine share: they count and print the answers that are not the due ones. */
final class Check {
    private static int looked = 0;
    private static int wrong = 0;

    /** A call that answers a number. */
    interface Call {
        int answer();
    }

    private Check() {
    }

    static void due(String call, long got, long want) {
        looked++;
        if (got != want) {
            wrong++;
            System.out.println(call + " answered " + got + ", due is " + want);
        }
    }

    static void dueDouble(String call, double got, double want) {
        looked++;
        if (got != want) {
            wrong++;
            System.out.println(call + " answered " + got + ", due is " + want);
        }
    }

    static void dueText(String call, String got, String want) {
        looked++;
        if (!got.equals(want)) {
            wrong++;
            System.out.println(call + " answered " + got + ", due is " + want);
        }
    }

    /** The exception must be of the very class: what the machine throws are subclasses. */
    static void dueThrow(String call, Class<? extends RuntimeException> want, Call made) {
        looked++;
        String got;
        try {
            got = "the answer " + made.answer();
        } catch (RuntimeException e) {
            if (e.getClass() == want) {
                return;
            }
            got = e.toString();
        }
        wrong++;
        System.out.println(call + " gave " + got + ", due is " + want.getSimpleName());
    }

    static void dueIndex(String call, Call made) {
        dueThrow(call, IndexOutOfBoundsException.class, made);
    }

    static void dueArgument(String call, Call made) {
        dueThrow(call, IllegalArgumentException.class, made);
    }

    static void append(CardLine line, String text) {
        byte[] bytes = text.getBytes(StandardCharsets.ISO_8859_1);
        for (int from = 0; from < bytes.length; from += 8) {
            long number = 0;
            for (int at = from; at < Math.min(from + 8, bytes.length); at++) {
                number = number << 8 | bytes[at] & 0xFF;
            }
            if (line.append(number) < 0) {
                throw new IllegalStateException("the buffer is full");
            }
        }
    }

    static int load(CardLine line, String text) {
        append(line, text);
        return line.load();
    }

    static int order(CardLine line, int lot, String text) {
        append(line, text);
        return line.order(lot);
    }

    /** What the calls that change nothing answer, but for the predictions, the buffer and the latest load. */
    static String look(CardLine line) {
        StringBuilder seen = new StringBuilder();
        for (int what = 0; what <= 8; what++) {
            seen.append(line.count(what)).append(' ');
        }
        for (int what = 0; what <= 4; what++) {
            seen.append(line.setting(what)).append(' ').append(line.total(what)).append(' ');
        }
        for (int station = 0; station < line.count(0); station++) {
            seen.append("\nstation");
            for (int what = 0; what <= 12; what++) {
                seen.append(' ').append(line.station(station, what));
            }
            seen.append(' ').append(line.busyPart(station)).append(' ').append(line.failIn(station));
            seen.append(' ').append(line.restIn(station));
        }
        for (int lot = 0; lot < line.count(1); lot++) {
            seen.append("\nlot");
            for (int what = 0; what <= 6; what++) {
                seen.append(' ').append(line.lot(lot, what));
            }
            for (int place = 0; place <= line.lot(lot, 1); place++) {
                seen.append(' ').append(line.cardOf(lot, place));
            }
            for (int day = 0; day <= 10; day++) {
                seen.append(' ').append(line.day(day, lot, 0)).append('/').append(line.day(day, lot, 1));
            }
            seen.append(' ').append(line.today(lot, 0)).append('/').append(line.today(lot, 1));
        }
        for (int card = 0; card < line.count(2); card++) {
            seen.append("\ncard");
            for (int what = 0; what <= 7; what++) {
                seen.append(' ').append(line.card(card, what));
            }
            for (int place = 0; place <= line.card(card, 2); place++) {
                seen.append(' ').append(line.letter(card, place));
            }
            seen.append(' ').append(line.leavesIn(card));
        }
        seen.append('\n');
        for (int index = 0; index <= 30; index++) {
            seen.append(line.trayAt(index)).append('/').append(line.leftAt(index)).append(' ');
        }
        return seen.append(line.nextFed()).append(' ').append(line.now()).toString();
    }

    /** A new object with a description that has no error. */
    static CardLine line(String text) {
        CardLine line = new CardLine();
        int answer = load(line, text);
        if (answer < 0) {
            throw new IllegalStateException("load() of " + text + " answered " + answer);
        }
        return line;
    }

    /** Ends a test's main method: with 1 if an answer was not the due one. */
    static void end(String name) {
        System.out.println(name + ": " + looked + " answers, " + wrong + " of them not as due");
        if (wrong > 0 || looked == 0) {
            System.exit(1);
        }
    }
}
