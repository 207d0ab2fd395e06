import java.util.ArrayList;
import java.util.List;
import java.util.function.Supplier;

/**
 * Calls that are refused change nothing: each is made on an object of its own, which must answer
 * every later call as another object does on which it was not made.
 */
public final class RefusedTest {
    private static final int MIN = Integer.MIN_VALUE;
    private static final int MAX = Integer.MAX_VALUE;

    private interface Call {
        int answer(CardLine line);
    }

    private record Refused(String call, Call made, String due) {
    }

    private static final List<Refused> REFUSED = new ArrayList<>();

    public static void main(String[] args) {
        looks("new", CardLine::new);
        wrongNumbers();
        againstNew();
        judge("on a new object", CardLine::new);
        REFUSED.clear();
        wrongNumbers();
        againstBusy();
        judge("on a busy line", RefusedTest::busy);
        looks("busy", RefusedTest::busy);
        REFUSED.clear();
        wrongNumbers();
        againstFull();
        judge("on a full line", RefusedTest::full);
        looks("full", RefusedTest::full);
        errorsOfLoad();
        errorsOfOrder();
        orderOfNoLot();
        Check.end("RefusedTest");
    }

    private static void index(String call, Call made) {
        REFUSED.add(new Refused(call, made, "IndexOutOfBoundsException"));
    }

    private static void argument(String call, Call made) {
        REFUSED.add(new Refused(call, made, "IllegalArgumentException"));
    }

    private static void answers(String call, int due, Call made) {
        REFUSED.add(new Refused(call, made, "" + due));
    }

    private static String answer(CardLine line, Call made) {
        try {
            return "" + made.answer(line);
        } catch (RuntimeException e) {
            return e.getClass().getSimpleName();
        }
    }

    private static void judge(String where, Supplier<CardLine> lines) {
        String due = everything(lines.get(), true);
        for (Refused refused : REFUSED) {
            CardLine line = lines.get();
            Check.dueText(refused.call + " " + where, answer(line, refused.made), refused.due);
            Check.dueText("everything behind " + refused.call + " " + where, everything(line, true), due);
        }
        CardLine all = lines.get();
        for (Refused refused : REFUSED) {
            answer(all, refused.made);
        }
        Check.dueText("everything behind all of them " + where, everything(all, true), due);
    }

    /** What the line answers now, at each undo() and from each snapshot, then with the buffer read; uses the line up. */
    private static String everything(CardLine line, boolean withBuffer) {
        StringBuilder seen = new StringBuilder(now(line));
        if (withBuffer) {
            seen.append("buffer ").append(line.append(0)).append(' ').append(line.loadError()).append(line.loadStatement());
        }
        int more = line.count(9);
        while (more > 0) {
            more = line.undo();
            seen.append(more).append(Check.look(line));
        }
        for (int slot = 0; slot <= 1; slot++) {
            seen.append("\nslot ").append(line.restoreSnapshot(slot)).append(now(line));
        }
        if (withBuffer) {
            seen.append("\nread ").append(line.load()).append(line.loadError()).append(now(line));
        }
        return seen.toString();
    }

    private static String now(CardLine line) {
        StringBuilder seen = new StringBuilder(Check.look(line));
        seen.append("\nactions ").append(line.count(9)).append(" all ").append(line.allIn());
        seen.append(' ').append(line.bottleneck()).append(' ').append(line.yieldPart()).append(line.meanFails());
        for (int lot = 0; lot < line.count(1); lot++) {
            seen.append(' ').append(line.lotIn(lot));
        }
        for (int index = 0; index < 17; index++) {
            seen.append(' ').append(line.outputByte(index));
        }
        return seen.append('\n').toString();
    }

    private static void wrongNumbers() {
        for (int wrong : new int[] {MIN, -1, 30, MAX}) {
            String at = "(" + wrong + ")";
            argument("count" + at, line -> line.count(wrong));
            argument("setting" + at, line -> line.setting(wrong));
            argument("total" + at, line -> line.total(wrong));
            index("station" + at, line -> line.station(wrong, 0));
            index("card" + at, line -> line.card(wrong, 0));
            index("letter" + at, line -> line.letter(wrong, 0));
            index("lot" + at, line -> line.lot(wrong, 0));
            index("cardOf" + at, line -> line.cardOf(wrong, 0));
            index("steps" + at, line -> line.steps(wrong, 0));
            index("ticksFor" + at, line -> line.ticksFor(wrong, wrong));
            index("day" + at, line -> line.day(0, wrong, 0));
            index("today" + at, line -> line.today(wrong, 0));
            index("busyPart" + at, line -> (int) line.busyPart(wrong));
            index("order" + at, line -> line.order(wrong));
            index("giveUp" + at, line -> line.giveUp(wrong));
            index("setRank" + at, line -> line.setRank(wrong, 5));
            index("setPace" + at, line -> line.setPace(wrong, 5));
            index("stop" + at, line -> line.stop(wrong, true));
            index("setRest" + at, line -> line.setRest(wrong, 5, 5));
            index("rush" + at, line -> line.rush(wrong));
            index("swap" + at, line -> line.swap(wrong, 0));
            index("leavesIn" + at, line -> line.leavesIn(wrong));
            index("lotIn" + at, line -> line.lotIn(wrong));
            index("failIn" + at, line -> line.failIn(wrong));
            index("restIn" + at, line -> line.restIn(wrong));
            index("bestRank" + at, line -> line.bestRank(wrong));
            index("writeCard" + at, line -> line.writeCard(wrong));
        }
        for (int wrong : new int[] {MIN, -1, 0, 2001, MAX}) {
            String at = "(" + wrong + ")";
            argument("refill" + at, line -> line.refill(wrong));
            argument("setTries" + at, line -> line.setTries(wrong));
            argument("setTray" + at, line -> line.setTray(wrong));
            argument("run" + at, line -> line.run(wrong));
            argument("runToLeave" + at, line -> line.runToLeave(wrong));
            argument("leftIn" + at, line -> line.leftIn(wrong));
            argument("blanksIn" + at, line -> line.blanksIn(wrong));
        }
        for (int wrong : new int[] {MIN, -1, 2, MAX}) {
            argument("saveSnapshot(" + wrong + ")", line -> line.saveSnapshot(wrong));
            argument("restoreSnapshot(" + wrong + ")", line -> line.restoreSnapshot(wrong));
        }
        argument("refill(1000)", line -> line.refill(1000));
        argument("setTries(10)", line -> line.setTries(10));
        argument("setTray(21)", line -> line.setTray(21));
    }

    private static void againstNew() {
        for (int slot = 0; slot <= 1; slot++) {
            int empty = slot;
            answers("restoreSnapshot(" + slot + ")", CardLine.NONE, line -> line.restoreSnapshot(empty));
        }
        answers("undo()", CardLine.NONE, CardLine::undo);
        index("station(0, 0)", line -> line.station(0, 0));
        index("swap(0, 0)", line -> line.swap(0, 0));
        index("order(0)", line -> line.order(0));
    }

    /** Of each state there is a card, all actions are used, and there are days and a rest. */
    private static CardLine busy() {
        CardLine line = Check.line("line 3 50 2 2;chip 1 0;wheel 2 0100;rest 0 3 2;lot 5;lot 1;lot 0;card 0 ab;card 0 bd;"
            + "card 0 c;card 0 de;card 0 hip;card 0 i;card 0 k;card 1 l;card 1 mm");
        line.rush(2);
        line.giveUp(4);
        line.setTries(1);
        line.setTries(9);
        line.rush(8);
        line.run(27);
        line.stop(0, true);
        line.stop(0, false);
        line.run(2);
        line.swap(5, 6);
        Check.append(line, "line 7 7 7 7;print 1 01;lot 4;card 0 q");
        return line;
    }

    private static int states(CardLine line) {
        int states = 0;
        for (int card = 0; card < line.count(2); card++) {
            states |= 1 << line.card(card, 3);
        }
        return states;
    }

    private static int cardIn(CardLine line, int state) {
        for (int card = 0; card < line.count(2); card++) {
            if (line.card(card, 3) == state) {
                return card;
            }
        }
        return CardLine.NONE;
    }

    /** A card of the same lot as another one that does not wait. */
    private static int waiting(CardLine line, int other) {
        for (int card = 0; card < line.count(2); card++) {
            if (line.card(card, 3) == 0 && line.card(card, 0) == line.card(other, 0)) {
                return card;
            }
        }
        return CardLine.NONE;
    }

    private static void wrongStates(Supplier<CardLine> lines) {
        CardLine line = lines.get();
        for (int state = 1; state <= 4; state++) {
            int card = cardIn(line, state);
            if (card != CardLine.NONE) {
                String of = "(" + card + ") of state " + state;
                answers("giveUp" + of, CardLine.WRONG_STATE, x -> x.giveUp(card));
                answers("rush" + of, CardLine.WRONG_STATE, x -> x.rush(card));
                int other = waiting(line, card);
                if (other != CardLine.NONE) {
                    answers("swap" + of, CardLine.WRONG_STATE, x -> x.swap(card, other));
                    answers("swap with " + of, CardLine.WRONG_STATE, x -> x.swap(other, card));
                }
                argument("swap of itself" + of, x -> x.swap(card, card));
            }
        }
    }

    private static void againstBusy() {
        Check.due("the states of the busy line", states(busy()), 0b11111);
        Check.due("the days of the busy line", busy().day(4, 0, 0) != CardLine.NONE ? 1 : 0, 1);
        Check.due("its fails", busy().total(1) > 0 ? 1 : 0, 1);
        wrongStates(RefusedTest::busy);
        argument("swap of unlike lots", line -> line.swap(6, 7));
        argument("day of a wrong index", line -> line.day(-1, 0, 0));
        argument("day of a wrong what", line -> line.day(0, 0, 2));
        argument("today of a wrong what", line -> line.today(0, 2));
        argument("station of a wrong what", line -> line.station(0, 13));
        argument("card of a wrong what", line -> line.card(0, 8));
        argument("lot of a wrong what", line -> line.lot(0, 7));
        argument("steps of a wrong letter", line -> line.steps(0, 26));
        argument("setRank(0, 10)", line -> line.setRank(0, 10));
        argument("setRank(0, -1)", line -> line.setRank(0, -1));
        argument("setPace(0, 100)", line -> line.setPace(0, 100));
        argument("setPace(1, 10)", line -> line.setPace(1, 10));
        argument("setPace(1, 0)", line -> line.setPace(1, 0));
        argument("setRest(0, 100, 1)", line -> line.setRest(0, 100, 1));
        argument("setRest(0, -1, 1)", line -> line.setRest(0, -1, 1));
        argument("setRest(0, 1, 0)", line -> line.setRest(0, 1, 0));
        argument("setRest(1, 99, 100)", line -> line.setRest(1, 99, 100));
        answers("restoreSnapshot(0)", CardLine.NONE, line -> line.restoreSnapshot(0));
    }

    /** Nothing more goes in anywhere: stations, lots, cards, blanks, bytes and actions. */
    private static CardLine full() {
        StringBuilder text = new StringBuilder("line 2 999 1 1");
        for (int number = 0; number < 6; number++) {
            text.append(";chip 1 0;lot ").append(number);
        }
        for (int card = 0; card < 30; card++) {
            text.append(";card").append(card % 6).append("abc");
        }
        CardLine line = Check.line(text.toString());
        line.run(20);
        line.saveSnapshot(0);
        line.giveUp(29);
        line.writeCard(3);
        line.saveSnapshot(1);
        while (line.count(3) < 9000) {
            line.refill(999);
        }
        line.refill(9999 - line.count(3));
        line.stop(0, true);
        line.stop(3, true);
        Check.order(line, 0, "xx");
        Check.append(line, "line 7 9 1 1;lot 0;card 0 xyz");
        while (line.append(0) < 600) {
            line.append(' ');
        }
        return line;
    }

    private static void againstFull() {
        wrongStates(RefusedTest::full);
        answers("append(' ')", CardLine.FULL, line -> line.append(' '));
        answers("append(-1)", CardLine.FULL, line -> line.append(-1));
        answers("append(1 << 63)", CardLine.FULL, line -> line.append(1L << 63));
        answers("append(0)", 600, line -> line.append(0));
        answers("refill(1)", CardLine.FULL, line -> line.refill(1));
        answers("refill(999)", CardLine.FULL, line -> line.refill(999));
        argument("swap(0, 1)", line -> line.swap(0, 1));
    }

    /** Calls that look or predict change nothing either, nor are they actions. */
    private static void looks(String name, Supplier<CardLine> lines) {
        CardLine line = lines.get();
        now(line);
        line.leftIn(1);
        line.leftIn(2000);
        line.blanksIn(1);
        line.blanksIn(2000);
        line.bestTray();
        line.loadError();
        line.loadStatement();
        line.undo();
        CardLine other = lines.get();
        other.undo();
        for (int lot = 0; lot < line.count(1); lot++) {
            line.bestRank(lot);
            line.lotBy(lot);
            line.cardOf(lot, 0);
        }
        for (int card = 0; card < line.count(2); card++) {
            line.steps(card, 25);
            for (int station = 0; station < line.count(0); station++) {
                line.ticksFor(station, card);
            }
        }
        Check.dueText("everything behind looking at a line: " + name, everything(line, true), everything(other, true));
    }

    private static void errorsOfLoad() {
        String[] texts = {"", "x", "line 0 0 1 1", "line 5 5 5 5;chip 1 2", "line 5 5 5 5;lot 0;card 0 9(ab)",
            "line 5 5 5 5;lot 1;lot 2;lot 3;lot 4;lot 5;lot 6;lot 7", "line 5 5 5 5;chip 1 0;lot 9;card 0 a;", "line 5 5 5 5;rest 0 1 1"};
        int[] kinds = {1, 1, 2, 2, 3, 4, 1, 2};
        int[] statements = {0, 0, 0, 1, 2, 7, 4, 1};
        for (Supplier<CardLine> lines : List.<Supplier<CardLine>>of(CardLine::new, RefusedTest::busy, RefusedTest::full)) {
            for (int text = 0; text < texts.length; text++) {
                CardLine line = lines.get();
                line.saveSnapshot(1);
                CardLine other = lines.get();
                other.saveSnapshot(1);
                line.load();
                line.restoreSnapshot(1);
                other.load();
                other.restoreSnapshot(1);
                line.setTray(9);
                other.setTray(9);
                Check.due("load() of " + texts[text], Check.load(line, texts[text]) <= -100 ? 1 : 0, 1);
                Check.due("loadError() of " + texts[text], line.loadError(), kinds[text]);
                Check.due("loadStatement() of " + texts[text], line.loadStatement(), statements[text]);
                Check.due("the buffer behind " + texts[text], line.append(0), 0);
                Check.dueText("everything else behind " + texts[text], everything(line, false), everything(other, false));
            }
        }
    }

    private static CardLine busyWithoutBuffer() {
        CardLine line = busy();
        line.order(2);
        line.writeCard(4);
        line.saveSnapshot(1);
        return line;
    }

    private static void errorsOfOrder() {
        String[] texts = {"", " ", "a;", "1(a)", "9(ab)", "2(2(2(2(a))))", "2(", "A", "abcdefghijklmnopq"};
        int[] kinds = {1, 1, 1, 2, 3, 3, 1, 1, 3};
        int[] places = {0, 1, 1, 0, 4, 6, 2, 0, 16};
        for (int text = 0; text < texts.length; text++) {
            CardLine line = busyWithoutBuffer();
            Check.due("order(1) of " + texts[text], Check.order(line, 1, texts[text]), -100 - places[text]);
            Check.due("loadError() of " + texts[text], line.loadError(), kinds[text]);
            Check.due("loadStatement() of " + texts[text], line.loadStatement(), 0);
            Check.due("the buffer behind " + texts[text], line.append(0), 0);
            Check.dueText("everything else behind " + texts[text], everything(line, false),
                everything(busyWithoutBuffer(), false));
        }
    }

    private static void orderOfNoLot() {
        CardLine line = busyWithoutBuffer();
        Check.append(line, "abc");
        Check.dueIndex("order(3)", () -> line.order(3));
        Check.due("loadError() stays", line.loadError(), 1);
        Check.due("order(2) of the buffer that stays", line.order(2), 9);
        Check.due("its letters", line.card(9, 2), 3);
    }
}
