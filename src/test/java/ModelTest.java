import java.util.ArrayList;
import java.util.List;
import java.util.Random;
import java.util.stream.IntStream;

/**
 * Long runs of calls with drawn arguments, the same at every start, on a CardLine and on the Model:
 * both must answer alike, with numbers and with exceptions. What no run may ever do is looked at on
 * the way: exceptions of the machine itself.
 */
public final class ModelTest {
    private static final int RUNS = 400;
    private static final int CALLS = 512;

    private final Random random;
    private final CardLine line = new CardLine();
    private final Model model = new Model();
    private final List<String> calls = new ArrayList<>();
    private final boolean predicts;
    private static int scrapped = 0;
    private static int left = 0;
    private static int rests = 0;

    private ModelTest(int run) {
        random = new Random(run);
        // The Model's predictions are slow, so that few runs ask for the dear ones.
        predicts = run % 10 == 0;
    }

    public static void main(String[] args) {
        int first = args.length > 0 ? Integer.parseInt(args[0]) : 0;
        int runs = args.length > 1 ? Integer.parseInt(args[1]) : RUNS;
        for (int run = first; run < first + runs; run++) {
            new ModelTest(run).play(run);
        }
        System.out.println("At the ends " + left + " cards have left, " + scrapped + " were scrapped, " + rests
            + " ticks to rest.");
        Check.end("ModelTest");
    }

    private int draw(int least, int most) {
        return least + random.nextInt(most - least + 1);
    }

    private boolean rarely(int times) {
        return random.nextInt(times) == 0;
    }

    /** Mostly a number of a range, at times one at or outside its edges. */
    private int near(int least, int most) {
        if (!rarely(12)) {
            return most >= least ? draw(least, most) : least;
        }
        int[] edges = {least - 1, most + 1, least, most, Integer.MIN_VALUE, Integer.MAX_VALUE, -1, 0};
        return edges[random.nextInt(edges.length)];
    }

    private String pieces(int depth) {
        StringBuilder text = new StringBuilder();
        int count = draw(1, rarely(30) ? 17 : depth == 0 ? 5 : 2);
        for (int piece = 0; piece < count; piece++) {
            if (depth < 4 && rarely(7)) {
                text.append(rarely(200) ? draw(0, 12) : rarely(20) ? draw(3, 9) : draw(2, 3)).append(rarely(8) ? " (" : "(");
                text.append(pieces(depth + 1)).append(rarely(200) ? "" : ")");
            } else {
                text.append((char) ('a' + draw(0, 25)));
            }
        }
        return text.toString();
    }

    private String script() {
        StringBuilder script = new StringBuilder();
        int length = draw(1, rarely(100) ? 13 : rarely(3) ? 12 : 6);
        int often = draw(2, 9);
        for (int sign = 0; sign < length; sign++) {
            script.append(rarely(often) ? '1' : rarely(1000) ? '2' : '0');
        }
        return script.toString();
    }

    private String description() {
        StringBuilder text = new StringBuilder("line ");
        text.append(rarely(2) ? draw(1, 40) : draw(1, 600)).append(' ').append(rarely(3) ? draw(0, 15) : draw(0, 300));
        text.append(' ').append(rarely(2) ? draw(1, 3) : draw(1, 20)).append(' ').append(draw(rarely(3) ? 1 : 4, 9));
        int stations = draw(rarely(10) ? 0 : 1, rarely(40) ? 7 : 6);
        for (int station = 0; station < stations; station++) {
            String[] kinds = {"chip", "stripe", "print"};
            if (rarely(2)) {
                text.append(";wheel ").append(draw(1, 9));
            } else {
                text.append(';').append(kinds[draw(0, 2)]).append(' ').append(rarely(4) ? draw(1, 99) : draw(1, 9));
            }
            text.append(' ').append(script());
            if (rarely(5)) {
                text.append(";rest ").append(draw(0, station)).append(' ').append(draw(1, 6)).append(' ').append(draw(1, 30));
            }
        }
        int lots = draw(rarely(20) ? 0 : 1, rarely(40) ? 7 : rarely(2) ? 2 : 6);
        for (int lot = 0; lot < lots; lot++) {
            text.append(";lot ").append(draw(0, 9));
        }
        int cards = draw(0, rarely(4) ? 31 : 20);
        for (int card = 0; card < cards && lots > 0 && text.length() < 570; card++) {
            text.append(";card ").append(draw(0, lots - 1)).append(' ').append(pieces(rarely(3) ? 0 : 4));
        }
        return rarely(5) ? spoilt(text) : text.toString();
    }

    private String spoilt(StringBuilder text) {
        String signs = " ;()0129aez \tA" + (char) 200;
        int changes = draw(1, 3);
        for (int change = 0; change < changes && text.length() > 0; change++) {
            int at = random.nextInt(text.length());
            char sign = signs.charAt(random.nextInt(signs.length()));
            switch (draw(0, 3)) {
                case 0: text.setCharAt(at, sign); break;
                case 1: text.insert(at, sign); break;
                case 2: text.deleteCharAt(at); break;
                default: text.setLength(rarely(3) ? at : text.length()); break;
            }
        }
        return text.toString();
    }

    private interface Answer {
        double give();
    }

    private static String told(Answer answer) {
        try {
            return Double.toString(answer.give());
        } catch (RuntimeException e) {
            return e.getClass().getName();
        }
    }

    private void both(int run, String call, Answer got, Answer want) {
        calls.add(call);
        String due = told(want);
        String answered = told(got);
        Check.dueText("run " + run + ", call " + calls.size() + ", " + call, answered, due);
    }

    private void append(int run, String text) {
        for (int from = 0; from < text.length();) {
            long number = 0;
            for (int filled = draw(1, 8); filled > 0 && from < text.length(); filled--) {
                number = number << 8 | text.charAt(from);
                from++;
            }
            long bytes = number;
            both(run, "append(" + bytes + ")", () -> line.append(bytes), () -> model.append(bytes));
        }
    }

    private void load(int run) {
        for (int again = 0; again < 4; again++) {
            append(run, description());
            both(run, "load()", line::load, model::load);
            both(run, "loadError()", line::loadError, model::loadError);
            both(run, "loadStatement()", line::loadStatement, model::loadStatement);
            if (model.loadError() == 0) {
                return;
            }
        }
    }

    private void play(int run) {
        load(run);
        for (int call = 0; call < CALLS; call++) {
            int stations = model.count(0);
            int lots = model.count(1);
            int cards = model.count(2);
            if (rarely(3)) {
                act(run, stations, lots, cards);
            } else if (rarely(4)) {
                predict(run, stations, lots, cards);
            } else {
                look(run, stations, lots, cards);
            }
            if (rarely(50)) {
                lookAtAll(run);
            }
        }
        lookAtAll(run);
        scrapped += model.total(2);
        left += model.count(7);
        rests += IntStream.range(0, model.count(0)).map(s -> model.station(s, 11)).sum();
    }

    private int ticks() {
        return rarely(20) ? near(1, 2000) : near(1, rarely(3) ? 60 : 9);
    }

    private void act(int run, int stations, int lots, int cards) {
        int s = near(0, stations - 1);
        int l = near(0, lots - 1);
        int c = near(0, cards - 1);
        int d = near(0, cards - 1);
        int small = near(1, 9);
        int great = near(0, 99);
        int ticks = ticks();
        int slot = near(0, 1);
        boolean stopped = rarely(3);
        switch (draw(0, 21)) {
            case 0:
                append(run, rarely(4) ? spoilt(new StringBuilder(pieces(0))) : pieces(0));
                both(run, "order(" + l + ")", () -> line.order(l), () -> model.order(l));
                both(run, "loadError()", line::loadError, model::loadError);
                both(run, "loadStatement()", line::loadStatement, model::loadStatement);
                break;
            case 1: both(run, "giveUp(" + c + ")", () -> line.giveUp(c), () -> model.giveUp(c)); break;
            case 2: both(run, "setRank(" + l + ", " + small + ")", () -> line.setRank(l, small), () -> model.setRank(l, small)); break;
            case 3:
                int blanks = near(1, rarely(9) ? 999 : 20);
                both(run, "refill(" + blanks + ")", () -> line.refill(blanks), () -> model.refill(blanks));
                break;
            case 4:
                int pace = rarely(3) ? great : small;
                both(run, "setPace(" + s + ", " + pace + ")", () -> line.setPace(s, pace), () -> model.setPace(s, pace));
                break;
            case 5: both(run, "stop(" + s + ", " + stopped + ")", () -> line.stop(s, stopped), () -> model.stop(s, stopped)); break;
            case 6:
                int after = rarely(5) ? great : near(0, 4);
                both(run, "setRest(" + s + ", " + after + ", " + small + ")", () -> line.setRest(s, after, small),
                    () -> model.setRest(s, after, small));
                break;
            case 7: both(run, "rush(" + c + ")", () -> line.rush(c), () -> model.rush(c)); break;
            case 8:
                int other = rarely(3) ? d : mateOf(c);
                both(run, "swap(" + c + ", " + other + ")", () -> line.swap(c, other), () -> model.swap(c, other));
                break;
            case 9: both(run, "setTries(" + small + ")", () -> line.setTries(small), () -> model.setTries(small)); break;
            case 10:
                int places = near(1, rarely(2) ? 2 : 20);
                both(run, "setTray(" + places + ")", () -> line.setTray(places), () -> model.setTray(places));
                break;
            case 11: both(run, "runToLeave(" + ticks + ")", () -> line.runToLeave(ticks), () -> model.runToLeave(ticks)); break;
            case 12: case 13: both(run, "undo()", line::undo, model::undo); break;
            case 14: both(run, "saveSnapshot(" + slot + ")", () -> line.saveSnapshot(slot), () -> model.saveSnapshot(slot)); break;
            case 15:
                if (rarely(4)) {
                    both(run, "restoreSnapshot(" + slot + ")", () -> line.restoreSnapshot(slot), () -> model.restoreSnapshot(slot));
                }
                break;
            case 16:
                if (rarely(6)) {
                    load(run);
                }
                break;
            default: both(run, "run(" + ticks + ")", () -> line.run(ticks), () -> model.run(ticks)); break;
        }
    }

    /** Another card of the lot of a card, if there are both. */
    private int mateOf(int card) {
        if (card < 0 || card >= model.count(2)) {
            return card;
        }
        int lot = model.card(card, 0);
        return model.cardOf(lot, draw(0, model.lot(lot, 1) - 1));
    }

    private void predict(int run, int stations, int lots, int cards) {
        int s = near(0, stations - 1);
        int l = near(0, lots - 1);
        int c = near(0, cards - 1);
        int ticks = ticks();
        int place = near(0, lots - 1);
        switch (predicts ? draw(0, 9) : draw(0, 9) % 8) {
            case 0: both(run, "leavesIn(" + c + ")", () -> line.leavesIn(c), () -> model.leavesIn(c)); break;
            case 1: both(run, "lotIn(" + l + ")", () -> line.lotIn(l), () -> model.lotIn(l)); break;
            case 2: both(run, "allIn()", line::allIn, model::allIn); break;
            case 3: both(run, "leftIn(" + ticks + ")", () -> line.leftIn(ticks), () -> model.leftIn(ticks)); break;
            case 4: both(run, "failIn(" + s + ")", () -> line.failIn(s), () -> model.failIn(s)); break;
            case 5: both(run, "blanksIn(" + ticks + ")", () -> line.blanksIn(ticks), () -> model.blanksIn(ticks)); break;
            case 6: both(run, "restIn(" + s + ")", () -> line.restIn(s), () -> model.restIn(s)); break;
            case 7:
                if (predicts || rarely(5)) {
                    both(run, "lotBy(" + place + ")", () -> line.lotBy(place), () -> model.lotBy(place));
                }
                break;
            case 8: both(run, "bestRank(" + l + ")", () -> line.bestRank(l), () -> model.bestRank(l)); break;
            default: both(run, "bestTray()", line::bestTray, model::bestTray); break;
        }
    }

    private void look(int run, int stations, int lots, int cards) {
        int s = near(0, stations - 1);
        int l = near(0, lots - 1);
        int c = near(0, cards - 1);
        int what = near(0, 12);
        int letter = near(0, 25);
        int index = near(0, 10);
        int part = near(0, 1);
        switch (draw(0, 23)) {
            case 0: both(run, "count(" + what + ")", () -> line.count(what), () -> model.count(what)); break;
            case 1: both(run, "setting(" + what + ")", () -> line.setting(what), () -> model.setting(what)); break;
            case 2: both(run, "station(" + s + ", " + what + ")", () -> line.station(s, what), () -> model.station(s, what)); break;
            case 3: both(run, "card(" + c + ", " + what + ")", () -> line.card(c, what), () -> model.card(c, what)); break;
            case 4: both(run, "letter(" + c + ", " + index + ")", () -> line.letter(c, index), () -> model.letter(c, index)); break;
            case 5: both(run, "lot(" + l + ", " + what + ")", () -> line.lot(l, what), () -> model.lot(l, what)); break;
            case 6: both(run, "cardOf(" + l + ", " + index + ")", () -> line.cardOf(l, index), () -> model.cardOf(l, index)); break;
            case 7: both(run, "trayAt(" + index + ")", () -> line.trayAt(index), () -> model.trayAt(index)); break;
            case 8: both(run, "leftAt(" + index + ")", () -> line.leftAt(index), () -> model.leftAt(index)); break;
            case 9: both(run, "nextFed()", line::nextFed, model::nextFed); break;
            case 10: both(run, "steps(" + c + ", " + letter + ")", () -> line.steps(c, letter), () -> model.steps(c, letter)); break;
            case 11: both(run, "ticksFor(" + s + ", " + c + ")", () -> line.ticksFor(s, c), () -> model.ticksFor(s, c)); break;
            case 12: both(run, "now()", line::now, model::now); break;
            case 13: case 14:
                both(run, "day(" + index + ", " + l + ", " + part + ")", () -> line.day(index, l, part), () -> model.day(index, l, part));
                break;
            case 15: both(run, "today(" + l + ", " + part + ")", () -> line.today(l, part), () -> model.today(l, part)); break;
            case 16: both(run, "total(" + what + ")", () -> line.total(what), () -> model.total(what)); break;
            case 17: both(run, "yieldPart()", line::yieldPart, model::yieldPart); break;
            case 18: both(run, "meanFails()", line::meanFails, model::meanFails); break;
            case 19: both(run, "busyPart(" + s + ")", () -> line.busyPart(s), () -> model.busyPart(s)); break;
            case 20: both(run, "bottleneck()", line::bottleneck, model::bottleneck); break;
            case 21: both(run, "writeCard(" + c + ")", () -> line.writeCard(c), () -> model.writeCard(c)); break;
            default: both(run, "outputByte(" + index + ")", () -> line.outputByte(index), () -> model.outputByte(index)); break;
        }
    }

    private void lookAtAll(int run) {
        for (int number = -1; number <= 30; number++) {
            int n = number;
            for (int number2 = -1; number2 <= 16; number2++) {
                int m = number2;
                both(run, "station(" + n + ", " + m + ")", () -> line.station(n, m), () -> model.station(n, m));
                both(run, "card(" + n + ", " + m + ")", () -> line.card(n, m), () -> model.card(n, m));
                both(run, "letter(" + n + ", " + m + ")", () -> line.letter(n, m), () -> model.letter(n, m));
                both(run, "lot(" + n + ", " + m + ")", () -> line.lot(n, m), () -> model.lot(n, m));
                both(run, "cardOf(" + n + ", " + m + ")", () -> line.cardOf(n, m), () -> model.cardOf(n, m));
                both(run, "day(" + m + ", " + n + ", 0)", () -> line.day(m, n, 0), () -> model.day(m, n, 0));
                both(run, "day(" + m + ", " + n + ", 1)", () -> line.day(m, n, 1), () -> model.day(m, n, 1));
                both(run, "ticksFor(" + m + ", " + n + ")", () -> line.ticksFor(m, n), () -> model.ticksFor(m, n));
            }
            both(run, "count(" + n + ")", () -> line.count(n), () -> model.count(n));
            both(run, "setting(" + n + ")", () -> line.setting(n), () -> model.setting(n));
            both(run, "total(" + n + ")", () -> line.total(n), () -> model.total(n));
            both(run, "trayAt(" + n + ")", () -> line.trayAt(n), () -> model.trayAt(n));
            both(run, "leftAt(" + n + ")", () -> line.leftAt(n), () -> model.leftAt(n));
            both(run, "outputByte(" + n + ")", () -> line.outputByte(n), () -> model.outputByte(n));
            both(run, "today(" + n + ", 0)", () -> line.today(n, 0), () -> model.today(n, 0));
            both(run, "today(" + n + ", 1)", () -> line.today(n, 1), () -> model.today(n, 1));
        }
        both(run, "nextFed()", line::nextFed, model::nextFed);
        both(run, "now()", line::now, model::now);
    }
}
