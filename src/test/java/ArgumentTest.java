import java.util.function.Supplier;

/**
 * The arguments of all calls: the least and the greatest value that is taken, the ones just beyond
 * them and the ends of int; and which exception comes first if several apply.
 */
public final class ArgumentTest {
    /** A call with one argument of interest, on a line of its own. */
    private interface Call {
        int answer(CardLine line, int value);
    }

    private static final Class<? extends RuntimeException> INDEX = IndexOutOfBoundsException.class;
    private static final Class<? extends RuntimeException> ARGUMENT = IllegalArgumentException.class;

    public static void main(String[] args) {
        numbers();
        paces();
        rests();
        for (Size size : Size.values()) {
            stations(size.stations, size);
            cards(size.cards, size);
            lots(size.lots, size);
        }
        unlikePlaces();
        placesOfTexts();
        placesOfRows();
        kindsOfSwap();
        firstException();
        Check.end("ArgumentTest");
    }

    /** Lines with no, one and as many stations, lots and cards as there can be. */
    private enum Size implements Supplier<CardLine> {
        NOTHING(0, 0, 0), ONE(1, 1, 1), FULL(6, 6, 30);

        final int stations;
        final int lots;
        final int cards;

        Size(int stations, int lots, int cards) {
            this.stations = stations;
            this.lots = lots;
            this.cards = cards;
        }

        @Override
        public CardLine get() {
            StringBuilder text = new StringBuilder("line 9 99 2 3");
            for (int station = 0; station < stations; station++) {
                text.append(station % 2 == 0 ? ";wheel 3 0" : ";chip 2 01");
            }
            for (int lot = 0; lot < lots; lot++) {
                text.append(";lot 4");
            }
            for (int card = 0; card < cards; card++) {
                text.append(";card").append(card % lots).append("az");
            }
            return Check.line(text.toString());
        }
    }

    private static void takes(String call, Supplier<CardLine> lines, int value, Call made) {
        int thrown = 0;
        try {
            made.answer(lines.get(), value);
        } catch (RuntimeException e) {
            thrown = 1;
        }
        Check.due(call + " of " + value + " throws", thrown, 0);
    }

    /** From least to most the argument is taken, and no value beyond that; least > most if none is. */
    private static void range(String call, Supplier<CardLine> lines, int least, int most,
            Class<? extends RuntimeException> want, Call made) {
        for (int value : new int[] {Integer.MIN_VALUE, least - 2, least - 1, most + 1, most + 2, 65536 + least,
            Integer.MIN_VALUE + least, Integer.MAX_VALUE}) {
            if (value < least || value > most) {
                Check.dueThrow(call + " of " + value, want, () -> made.answer(lines.get(), value));
            }
        }
        long step = Math.max(1, ((long) most - least) / 50);
        for (long value = least; value < most; value += step) {
            takes(call, lines, (int) value, made);
        }
        if (least <= most) {
            takes(call, lines, most, made);
        }
    }

    private static void numbers() {
        Size one = Size.ONE;
        range("count", one, 0, 9, ARGUMENT, (line, value) -> line.count(value));
        range("setting", one, 0, 4, ARGUMENT, (line, value) -> line.setting(value));
        range("station's what", one, 0, 12, ARGUMENT, (line, value) -> line.station(0, value));
        range("card's what", one, 0, 7, ARGUMENT, (line, value) -> line.card(0, value));
        range("lot's what", one, 0, 6, ARGUMENT, (line, value) -> line.lot(0, value));
        range("steps' letter", one, 0, 25, ARGUMENT, (line, value) -> line.steps(0, value));
        range("day's index", one, 0, Integer.MAX_VALUE, ARGUMENT, (line, value) -> line.day(value, 0, 0));
        range("day's what", one, 0, 1, ARGUMENT, (line, value) -> line.day(0, 0, value));
        range("today's what", one, 0, 1, ARGUMENT, (line, value) -> line.today(0, value));
        range("total", one, 0, 4, ARGUMENT, (line, value) -> line.total(value));
        range("setRank's rank", one, 0, 9, ARGUMENT, (line, value) -> line.setRank(0, value));
        range("refill", one, 1, 999, ARGUMENT, (line, value) -> line.refill(value));
        range("setTries", one, 1, 9, ARGUMENT, (line, value) -> line.setTries(value));
        range("setTray", one, 1, 20, ARGUMENT, (line, value) -> line.setTray(value));
        range("run", one, 1, 2000, ARGUMENT, (line, value) -> line.run(value));
        range("runToLeave", one, 1, 2000, ARGUMENT, (line, value) -> line.runToLeave(value));
        range("leftIn", one, 1, 2000, ARGUMENT, (line, value) -> line.leftIn(value));
        range("blanksIn", one, 1, 2000, ARGUMENT, (line, value) -> line.blanksIn(value));
        range("saveSnapshot", one, 0, 1, ARGUMENT, (line, value) -> line.saveSnapshot(value));
        range("restoreSnapshot", one, 0, 1, ARGUMENT, (line, value) -> line.restoreSnapshot(value));
    }

    private static void paces() {
        String[] kinds = {"chip", "stripe", "print", "wheel"};
        for (int kind = 0; kind < kinds.length; kind++) {
            int most = kind == 3 ? 9 : 99;
            String text = "line 9 9 1 1;wheel 1 0;chip 1 0;" + kinds[kind] + " 5 0";
            range("setPace of " + kinds[kind], () -> Check.line(text), 1, most, ARGUMENT,
                (line, value) -> line.setPace(2, value));
            for (int pace = 1; pace <= most; pace++) {
                CardLine line = Check.line(text);
                Check.due("setPace(2, " + pace + ")", line.setPace(2, pace), 5);
                Check.due("its pace", line.station(2, 1), pace);
            }
        }
    }

    private static void rests() {
        Size one = Size.ONE;
        range("setRest's after", one, 0, 99, ARGUMENT, (line, value) -> line.setRest(0, value, 1));
        range("setRest's after with ticks 99", one, 0, 99, ARGUMENT, (line, value) -> line.setRest(0, value, 99));
        range("setRest's ticks behind 1", one, 1, 99, ARGUMENT, (line, value) -> line.setRest(0, 1, value));
        range("setRest's ticks behind 99", one, 1, 99, ARGUMENT, (line, value) -> line.setRest(0, 99, value));
        int[] any = {Integer.MIN_VALUE, -1, 0, 1, 99, 100, Integer.MAX_VALUE};
        for (int ticks : any) {
            takes("setRest(0, 0, ticks)", one, ticks, (line, value) -> line.setRest(0, 0, value));
            CardLine line = one.get();
            line.setRest(0, 7, 8);
            Check.due("setRest(0, 0, " + ticks + ")", line.setRest(0, 0, ticks), 7);
            Check.due("AFTER then", line.station(0, 9), 0);
            Check.due("TICKS then", line.station(0, 10), 0);
        }
        Check.dueArgument("setRest(0, -1, MIN)", () -> one.get().setRest(0, -1, Integer.MIN_VALUE));
        Check.dueArgument("setRest(0, 100, 0)", () -> one.get().setRest(0, 100, 0));
    }

    private static void stations(int count, Size size) {
        String of = " of a station of " + count;
        range("station" + of, size, 0, count - 1, INDEX, (line, value) -> line.station(value, 0));
        range("busyPart" + of, size, 0, count - 1, INDEX, (line, value) -> (int) line.busyPart(value));
        range("setPace" + of, size, 0, count - 1, INDEX, (line, value) -> line.setPace(value, 1));
        range("stop" + of, size, 0, count - 1, INDEX, (line, value) -> line.stop(value, true));
        range("stop" + of, size, 0, count - 1, INDEX, (line, value) -> line.stop(value, false));
        range("setRest" + of, size, 0, count - 1, INDEX, (line, value) -> line.setRest(value, 1, 1));
        range("setRest without a rest" + of, size, 0, count - 1, INDEX, (line, value) -> line.setRest(value, 0, 0));
        range("failIn" + of, size, 0, count - 1, INDEX, (line, value) -> line.failIn(value));
        range("restIn" + of, size, 0, count - 1, INDEX, (line, value) -> line.restIn(value));
        range("ticksFor" + of, size, 0, count - 1, INDEX, (line, value) -> line.ticksFor(value, 0));
    }

    private static void cards(int count, Size size) {
        String of = " of a card of " + count;
        range("card" + of, size, 0, count - 1, INDEX, (line, value) -> line.card(value, 0));
        range("letter" + of, size, 0, count - 1, INDEX, (line, value) -> line.letter(value, 0));
        range("steps" + of, size, 0, count - 1, INDEX, (line, value) -> line.steps(value, 0));
        range("giveUp" + of, size, 0, count - 1, INDEX, (line, value) -> line.giveUp(value));
        range("rush" + of, size, 0, count - 1, INDEX, (line, value) -> line.rush(value));
        range("leavesIn" + of, size, 0, count - 1, INDEX, (line, value) -> line.leavesIn(value));
        range("writeCard" + of, size, 0, count - 1, INDEX, (line, value) -> line.writeCard(value));
        range("ticksFor" + of, size, 0, count - 1, INDEX, (line, value) -> line.ticksFor(0, value));
    }

    private static void lots(int count, Size size) {
        String of = " of a lot of " + count;
        range("lot" + of, size, 0, count - 1, INDEX, (line, value) -> line.lot(value, 0));
        range("cardOf" + of, size, 0, count - 1, INDEX, (line, value) -> line.cardOf(value, 0));
        range("day" + of, size, 0, count - 1, INDEX, (line, value) -> line.day(0, value, 0));
        range("today" + of, size, 0, count - 1, INDEX, (line, value) -> line.today(value, 0));
        range("order" + of, size, 0, count - 1, INDEX, (line, value) -> line.order(value));
        range("setRank" + of, size, 0, count - 1, INDEX, (line, value) -> line.setRank(value, 0));
        range("lotIn" + of, size, 0, count - 1, INDEX, (line, value) -> line.lotIn(value));
        range("bestRank" + of, size, 0, count - 1, INDEX, (line, value) -> line.bestRank(value));
    }

    /** Places and indices outside are no wrong arguments: there is NONE of them. */
    private static void none(String call, Supplier<CardLine> lines, int count, Call made) {
        int[] outside = {Integer.MIN_VALUE, -2, -1, count, count + 1, 16, 30, 65536, Integer.MAX_VALUE};
        for (int value : outside) {
            if (value < 0 || value >= count) {
                Check.due(call + " at " + value, made.answer(lines.get(), value), CardLine.NONE);
            }
        }
        for (int value = 0; value < count; value++) {
            Check.due(call + " at " + value, made.answer(lines.get(), value) >= 0 ? 1 : 0, 1);
        }
    }

    private static void unlikePlaces() {
        for (Size size : Size.values()) {
            none("trayAt", size, 0, CardLine::trayAt);
            none("leftAt", size, 0, CardLine::leftAt);
            none("outputByte", size, 0, CardLine::outputByte);
            none("lotBy", size, size.lots, CardLine::lotBy);
            if (size.lots > 0) {
                none("cardOf", size, size.cards / size.lots, (line, value) -> line.cardOf(0, value));
                none("day", size, 0, (line, value) -> value < 0 ? CardLine.NONE : line.day(value, 0, 0));
            }
        }
        none("cardOf without cards", () -> Check.line("line 9 9 1 1;lot 0;lot 1;card 1 a"), 0,
            (line, value) -> line.cardOf(0, value));
        StringBuilder all = new StringBuilder("line 9 9 1 1;lot 0");
        for (int card = 0; card < 30; card++) {
            all.append(";card0a");
        }
        none("cardOf with all cards", () -> Check.line(all.toString()), 30, (line, value) -> line.cardOf(0, value));
    }

    private static void placesOfTexts() {
        for (int letters = 1; letters <= 16; letters++) {
            String text = "line 9 9 1 1;lot 0;card 0 " + "abcdefghijklmnop".substring(0, letters);
            none("letter of " + letters, () -> Check.line(text), letters, (line, value) -> line.letter(0, value));
            none("outputByte of " + letters, () -> {
                CardLine line = Check.line(text);
                line.writeCard(0);
                return line;
            }, letters, CardLine::outputByte);
        }
    }

    private static void placesOfRows() {
        for (int cards = 1; cards <= 20; cards++) {
            StringBuilder text = new StringBuilder("line 2000 99 20 1;chip 1 0;lot 0");
            for (int card = 0; card <= cards; card++) {
                text.append(";card0a");
            }
            int waiting = cards;
            Supplier<CardLine> lines = () -> {
                CardLine line = Check.line(text.toString());
                line.swap(0, waiting);
                line.run(waiting + 1);
                return line;
            };
            none("trayAt of " + cards, lines, cards, CardLine::trayAt);
            none("leftAt with " + cards + " in the tray", lines, 0, CardLine::leftAt);
            Supplier<CardLine> later = () -> {
                CardLine line = lines.get();
                line.run(1);
                return line;
            };
            none("trayAt behind " + cards, later, 0, CardLine::trayAt);
            none("leftAt of " + (cards + 1), later, cards + 1, CardLine::leftAt);
        }
    }

    private static void kindsOfSwap() {
        StringBuilder text = new StringBuilder("line 9 9 1 1;lot 0");
        for (int cards = 1; cards <= 30; cards++) {
            text.append(";card0a");
            String description = text.toString();
            int last = cards - 1;
            if (cards > 1) {
                range("swap's first of " + cards, () -> Check.line(description), 0, last, INDEX,
                    (line, value) -> line.swap(value, value == 0 ? last : 0));
                range("swap's other of " + cards, () -> Check.line(description), 0, last, INDEX,
                    (line, value) -> line.swap(value == last ? 0 : last, value));
            }
            for (int card = 0; card < cards; card++) {
                int same = card;
                Check.dueArgument("swap() of " + card + " with itself", () -> Check.line(description).swap(same, same));
            }
        }
    }

    private static void firstException() {
        CardLine line = Size.FULL.get();
        for (int wrong : new int[] {Integer.MIN_VALUE, -1, 30, Integer.MAX_VALUE}) {
            Check.dueIndex("station", () -> line.station(wrong, -1));
            Check.dueIndex("card", () -> line.card(wrong, 8));
            Check.dueIndex("lot", () -> line.lot(wrong, 7));
            Check.dueIndex("steps", () -> line.steps(wrong, 26));
            Check.dueIndex("day", () -> line.day(-1, wrong, 2));
            Check.dueIndex("today", () -> line.today(wrong, 2));
            Check.dueIndex("setRank", () -> line.setRank(wrong, 10));
            Check.dueIndex("setPace", () -> line.setPace(wrong, 0));
            Check.dueIndex("setRest", () -> line.setRest(wrong, 100, 0));
            Check.dueIndex("swap of one card", () -> line.swap(wrong, wrong));
            Check.dueIndex("swap with a wrong first card", () -> line.swap(wrong, 0));
            Check.dueIndex("swap with a wrong other card", () -> line.swap(0, wrong));
        }
        line.run(1);
        Check.due("a card on the line", line.card(0, 3), 1);
        Check.dueArgument("swap(0, 0): exceptions come before errors", () -> line.swap(0, 0));
        Check.dueArgument("swap(0, 1): exceptions come before errors", () -> line.swap(0, 1));
        Check.dueArgument("swap(1, 0): exceptions come before errors", () -> line.swap(1, 0));
        Check.dueIndex("swap(0, 30): exceptions come before errors", () -> line.swap(0, 30));
        Check.due("swap(0, 6)", line.swap(0, 6), CardLine.WRONG_STATE);
        for (int time = 0; time < 10; time++) {
            line.refill(999);
        }
        Check.due("refill(999) of a full line", line.refill(999), CardLine.FULL);
        Check.dueArgument("refill(1000): exceptions come before errors", () -> line.refill(1000));
        Check.dueIndex("order(6): exceptions come before errors", () -> line.order(6));
    }
}
