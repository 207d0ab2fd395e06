/** Promises 26 to 38: the actions, each with its answers, its errors and its exceptions. */
public final class ActionTest {
    private static final String TWO_LOTS =
        "line 99 50 2 3;chip 2 0;wheel 5 0;lot 4;lot 4;card 0 a;card 0 b;card 1 c;card 0 d";

    public static void main(String[] args) {
        promise26();
        promise26Errors();
        promise27();
        promise28();
        promise29();
        promise30();
        promise31();
        promise32();
        promise33();
        promise34();
        promise35();
        promise36();
        promise37();
        promise38();
        whatChangesNothing();
        fullHouse();
        Check.end("ActionTest");
    }

    private static void promise26() {
        CardLine line = Check.line(TWO_LOTS);
        Check.due("order(0)", Check.order(line, 0, " x 2(yz) "), 4);
        Check.due("its lot", line.card(4, 0), 0);
        Check.due("its place", line.card(4, 1), 3);
        Check.due("its letters", line.card(4, 2), 5);
        Check.due("its last letter", line.letter(4, 4), 25);
        Check.due("its state", line.card(4, 3), 0);
        Check.due("its station", line.card(4, 4), CardLine.NONE);
        Check.due("cardOf(0, 3)", line.cardOf(0, 3), 4);
        Check.due("cards that wait", line.count(4), 5);
        Check.due("the buffer is empty", line.append(0), 0);
        Check.due("order(1)", Check.order(line, 1, "abcdefghijklmnop"), 5);
        Check.due("its place in lot 1", line.card(5, 1), 1);
        Check.due("the actions", line.count(9), 2);
        line.undo();
        Check.due("cards behind undo()", line.count(2), 5);
        Check.due("the lot's cards behind undo()", line.lot(1, 1), 1);
        CardLine late = Check.line("line 99 50 2 3;chip 1 0;lot 4;card 0 a");
        late.run(5);
        Check.due("the lot is finished", late.lot(0, 6), CardLine.NONE);
        Check.due("lotIn(0) then", late.lotIn(0), 0);
        Check.order(late, 0, "b");
        Check.due("it is not finished then", late.lot(0, 6), 1);
        Check.due("the late card leaves", late.run(2), 2);
        Check.due("lotIn(0) in the end", late.lotIn(0), 0);
    }

    private static void refuses(CardLine line, String text, int place, int kind) {
        String before = Check.look(line);
        int actions = line.count(9);
        Check.due("order(0) of '" + text + "'", Check.order(line, 0, text), -100 - place);
        Check.due("loadError() of '" + text + "'", line.loadError(), kind);
        Check.due("loadStatement() of '" + text + "'", line.loadStatement(), 0);
        Check.due("the buffer behind '" + text + "'", line.append(0), 0);
        Check.due("the actions behind '" + text + "'", line.count(9), actions);
        Check.dueText("the line behind '" + text + "'", Check.look(line), before);
    }

    private static void promise26Errors() {
        CardLine line = Check.line(TWO_LOTS);
        refuses(line, "", 0, 1);
        refuses(line, "  ", 2, 1);
        refuses(line, "a;", 1, 1);
        refuses(line, ";", 0, 1);
        refuses(line, "ab)", 2, 1);
        refuses(line, "2(a", 3, 1);
        refuses(line, "2()", 2, 1);
        refuses(line, "2", 1, 1);
        refuses(line, "a B", 2, 1);
        refuses(line, "1(a)", 0, 2);
        refuses(line, "a12(b)", 1, 2);
        refuses(line, "9(ab)", 4, 3);
        refuses(line, "abcdefghijklmnopq", 16, 3);
        refuses(line, "2(2(2(2(a))))", 6, 3);
        Check.append(line, "ab");
        Check.dueIndex("order(2)", () -> line.order(2));
        Check.dueIndex("order(-1)", () -> line.order(-1));
        Check.due("the buffer behind an exception", line.append(0), 2);
        Check.due("order(1) then", line.order(1), 4);
        for (int card = 5; card < 30; card++) {
            Check.due("card " + card, Check.order(line, 1, "z"), card);
        }
        Check.due("the last one's place", line.card(29, 1), 26);
        refuses(line, "abc ", 4, 4);
        refuses(line, "", 0, 1);
        refuses(line, "ab2(c", 5, 1);
        refuses(line, "ab10(c", 2, 2);
        Check.due("30 cards", line.count(2), 30);
    }

    private static void promise27() {
        CardLine line = Check.line(TWO_LOTS);
        line.run(1);
        Check.due("giveUp() on the line", line.giveUp(0), CardLine.WRONG_STATE);
        Check.due("giveUp(1)", line.giveUp(1), 2);
        Check.due("its state", line.card(1, 3), 4);
        Check.due("giveUp(1) again", line.giveUp(1), CardLine.WRONG_STATE);
        line.rush(3);
        Check.due("giveUp(3) of a rushed card", line.giveUp(3), 1);
        Check.due("rush(2) then", line.rush(2), 1);
        Check.due("actions", line.count(9), 5);
        line.run(50);
        Check.due("giveUp() of one that left", line.giveUp(0), CardLine.WRONG_STATE);
        CardLine tray = Check.line("line 99 50 2 3;chip 1 0;lot 4;card 0 a;card 0 b");
        tray.swap(0, 1);
        tray.run(2);
        Check.due("giveUp() in the tray", tray.giveUp(0), CardLine.WRONG_STATE);
        tray.undo();
        tray.giveUp(1);
        tray.run(1);
        tray.run(1);
        Check.due("what was given up holds nothing up", tray.count(7), 1);
        Check.dueIndex("giveUp(-1)", () -> line.giveUp(-1));
        Check.dueIndex("giveUp(4)", () -> line.giveUp(4));
    }

    private static void promise28() {
        CardLine line = Check.line(TWO_LOTS);
        Check.due("setRank(1, 9)", line.setRank(1, 9), 4);
        Check.due("nextFed() then", line.nextFed(), 2);
        Check.due("setRank(1, 0)", line.setRank(1, 0), 9);
        Check.due("RANK then", line.lot(1, 0), 0);
        Check.due("nextFed() then", line.nextFed(), 0);
        Check.dueIndex("setRank(-1, 0)", () -> line.setRank(-1, 0));
        Check.dueIndex("setRank(2, 10)", () -> line.setRank(2, 10));
        Check.dueArgument("setRank(0, -1)", () -> line.setRank(0, -1));
        Check.dueArgument("setRank(0, 10)", () -> line.setRank(0, 10));
    }

    private static void promise29() {
        CardLine line = Check.line(TWO_LOTS);
        Check.due("refill(1)", line.refill(1), 51);
        Check.due("refill(999)", line.refill(999), 1050);
        for (int time = 2; time <= 9; time++) {
            line.refill(999);
        }
        Check.due("blanks", line.count(3), 9042);
        Check.due("refill() to 10000", line.refill(958), CardLine.FULL);
        Check.due("refill() to 9999", line.refill(957), 9999);
        Check.due("refill(1) to 10000", line.refill(1), CardLine.FULL);
        Check.due("blanks that were added", line.setting(4), 9949);
        Check.due("BLANKS as told", line.setting(3), 50);
        line.run(1);
        Check.due("refill(1) for one that was used", line.refill(1), 9999);
        Check.dueArgument("refill(0)", () -> line.refill(0));
        Check.dueArgument("refill(-1)", () -> line.refill(-1));
        Check.dueArgument("refill(1000)", () -> line.refill(1000));
        Check.dueArgument("refill(MAX)", () -> line.refill(Integer.MAX_VALUE));
        Check.dueArgument("refill(MIN)", () -> line.refill(Integer.MIN_VALUE));
    }

    private static void promise30() {
        CardLine line = Check.line(TWO_LOTS);
        line.run(1);
        Check.due("setPace(0, 99)", line.setPace(0, 99), 2);
        Check.due("TIME", line.station(0, 1), 99);
        Check.due("the card that is in it", line.station(0, 3), 2);
        line.run(2);
        Check.due("the card that entered then", line.station(0, 3), 99);
        Check.due("setPace(0, 1)", line.setPace(0, 1), 99);
        Check.due("setPace(1, 9)", line.setPace(1, 9), 5);
        Check.due("setPace(1, 1)", line.setPace(1, 1), 9);
        Check.dueIndex("setPace(-1, 1)", () -> line.setPace(-1, 1));
        Check.dueIndex("setPace(2, 0)", () -> line.setPace(2, 0));
        Check.dueArgument("setPace(0, 0)", () -> line.setPace(0, 0));
        Check.dueArgument("setPace(0, 100)", () -> line.setPace(0, 100));
        Check.dueArgument("setPace(1, 0)", () -> line.setPace(1, 0));
        Check.dueArgument("setPace(1, 10)", () -> line.setPace(1, 10));
    }

    private static void promise31() {
        CardLine line = Check.line(TWO_LOTS);
        Check.due("stop(0, true)", line.stop(0, true), 1);
        Check.due("stop(0, true) again", line.stop(0, true), 1);
        Check.due("stop(1, true)", line.stop(1, true), 2);
        Check.due("stop(0, false)", line.stop(0, false), 1);
        Check.due("station 0", line.station(0, 7), 0);
        Check.due("station 1", line.station(1, 7), 1);
        Check.due("stop(1, false)", line.stop(1, false), 0);
        Check.due("stop(1, false) again", line.stop(1, false), 0);
        Check.due("actions", line.count(9), 6);
        Check.dueIndex("stop(-1, true)", () -> line.stop(-1, true));
        Check.dueIndex("stop(2, false)", () -> line.stop(2, false));
    }

    private static void promise32() {
        CardLine line = Check.line("line 99 50 2 3;chip 1 0;lot 0;card 0 a;card 0 b;card 0 c;card 0 d;card 0 e;card 0 f");
        Check.due("setRest(0, 9, 8)", line.setRest(0, 9, 8), 0);
        line.run(4);
        Check.due("3 signs", line.station(0, 4), 3);
        Check.due("setRest(0, 2, 5)", line.setRest(0, 2, 5), 9);
        line.run(1);
        Check.due("the signs stay counted", line.station(0, 11), 5);
        line.run(1);
        Check.due("setRest(0, 0, 0)", line.setRest(0, 0, 0), 2);
        Check.due("AFTER without a rest", line.station(0, 9), 0);
        Check.due("TICKS without a rest", line.station(0, 10), 0);
        Check.due("a rest that has begun goes on", line.station(0, 11), 4);
        line.run(4);
        Check.due("up to its end", line.station(0, 11), 0);
        line.run(1);
        Check.due("then it works", line.count(7), 5);
        Check.due("setRest(0, 2, 99)", line.setRest(0, 2, 99), 0);
        line.run(1);
        Check.due("signs without a rest count too", line.station(0, 11), 99);
        Check.due("setRest(0, 0, MIN)", line.setRest(0, 0, Integer.MIN_VALUE), 2);
        Check.due("setRest(0, 99, 1)", line.setRest(0, 99, 1), 0);
        Check.due("setRest(0, 1, 1)", line.setRest(0, 1, 1), 99);
        Check.dueIndex("setRest(-1, 1, 1)", () -> line.setRest(-1, 1, 1));
        Check.dueIndex("setRest(1, 100, 0)", () -> line.setRest(1, 100, 0));
        Check.dueArgument("setRest(0, -1, 1)", () -> line.setRest(0, -1, 1));
        Check.dueArgument("setRest(0, 100, 1)", () -> line.setRest(0, 100, 1));
        Check.dueArgument("setRest(0, 1, 0)", () -> line.setRest(0, 1, 0));
        Check.dueArgument("setRest(0, 1, 100)", () -> line.setRest(0, 1, 100));
    }

    private static void promise33() {
        CardLine line = Check.line(TWO_LOTS);
        Check.due("rush(3)", line.rush(3), 1);
        Check.due("rush(3) again", line.rush(3), 1);
        Check.due("rush(2)", line.rush(2), 2);
        line.run(1);
        Check.due("the rushed one with the lowest number is fed", line.station(0, 2), 2);
        Check.due("rush() on the line", line.rush(2), CardLine.WRONG_STATE);
        Check.due("rush(0)", line.rush(0), 2);
        line.giveUp(3);
        Check.due("rush(1)", line.rush(1), 2);
        Check.due("rush() of one that was given up", line.rush(3), CardLine.WRONG_STATE);
        line.run(40);
        Check.due("rush() of one that left", line.rush(2), CardLine.WRONG_STATE);
        CardLine fails = Check.line("line 99 50 2 3;chip 1 1;lot 0;card 0 a;card 0 b");
        fails.rush(1);
        fails.stop(0, false);
        fails.run(1);
        fails.refill(1);
        Check.due("rush() behind one that was fed", fails.rush(0), 1);
        Check.dueIndex("rush(-1)", () -> line.rush(-1));
        Check.dueIndex("rush(4)", () -> line.rush(4));
    }

    private static void promise34() {
        CardLine line = Check.line(TWO_LOTS);
        Check.due("swap(0, 3)", line.swap(0, 3), 2);
        Check.due("the place of 0", line.card(0, 1), 2);
        Check.due("the place of 3", line.card(3, 1), 0);
        Check.due("the place of 1", line.card(1, 1), 1);
        Check.due("the card to leave next", line.lot(0, 6), 3);
        Check.due("swap(1, 3)", line.swap(1, 3), 0);
        Check.due("cardOf(0, 0)", line.cardOf(0, 0), 1);
        Check.due("cardOf(0, 1)", line.cardOf(0, 1), 3);
        Check.due("nextFed() is by numbers", line.nextFed(), 0);
        line.run(1);
        Check.due("swap() with a card on the line", line.swap(1, 0), CardLine.WRONG_STATE);
        Check.due("swap() of a card on the line", line.swap(0, 1), CardLine.WRONG_STATE);
        Check.dueIndex("swap(-1, 0)", () -> line.swap(-1, 0));
        Check.dueIndex("swap(4, 0)", () -> line.swap(4, 0));
        Check.dueIndex("swap(0, -1)", () -> line.swap(0, -1));
        Check.dueIndex("swap(0, 4)", () -> line.swap(0, 4));
        Check.dueArgument("swap(0, 0)", () -> line.swap(0, 0));
        Check.dueArgument("swap(1, 2)", () -> line.swap(1, 2));
        Check.dueArgument("swap(0, 2) of a card on the line", () -> line.swap(0, 2));
    }

    private static void promise35() {
        CardLine line = Check.line("line 99 50 2 5;chip 1 1;lot 0;card 0 a;card 0 b");
        line.run(3);
        Check.due("fails", line.card(0, 5), 2);
        Check.due("setTries(1)", line.setTries(1), 5);
        Check.due("who failed more often is not given up at once", line.count(8), 0);
        line.run(1);
        Check.due("but when it fails", line.card(0, 3), 4);
        Check.due("setTries(9)", line.setTries(9), 1);
        Check.due("who was given up stays so", line.count(8), 1);
        line.run(8);
        Check.due("8 fails", line.card(1, 5), 8);
        line.run(1);
        Check.due("the ninth", line.card(1, 3), 4);
        Check.dueArgument("setTries(0)", () -> line.setTries(0));
        Check.dueArgument("setTries(10)", () -> line.setTries(10));
    }

    private static void promise36() {
        CardLine line = Check.line("line 99 50 2 5;chip 1 0;lot 0;card 0 a;card 0 b;card 0 c;card 0 d");
        line.swap(0, 3);
        line.run(3);
        Check.due("in the tray", line.count(6), 2);
        Check.due("setTray(1)", line.setTray(1), 2);
        Check.due("cards in it stay", line.count(6), 2);
        line.run(1);
        Check.due("but none comes in", line.total(2), 1);
        Check.due("setTray(20)", line.setTray(20), 1);
        line.run(1);
        Check.due("then there is room", line.count(6), 3);
        Check.dueArgument("setTray(0)", () -> line.setTray(0));
        Check.dueArgument("setTray(21)", () -> line.setTray(21));
    }

    private static void promise37() {
        CardLine line = Check.line("line 99 50 2 5;chip 5 0;lot 0;card 0 a;card 0 b");
        Check.due("run(5)", line.run(5), 0);
        Check.due("run(1)", line.run(1), 1);
        Check.due("run(2000)", line.run(2000), 2);
        Check.due("now()", line.now(), 2006);
        Check.dueArgument("run(0)", () -> line.run(0));
        Check.dueArgument("run(-1)", () -> line.run(-1));
        Check.dueArgument("run(2001)", () -> line.run(2001));
        Check.dueArgument("run(MAX)", () -> line.run(Integer.MAX_VALUE));
        Check.due("now() behind exceptions", line.now(), 2006);
    }

    private static void promise38() {
        CardLine line = Check.line("line 99 50 2 5;chip 5 0;lot 0;card 0 a;card 0 b");
        Check.due("runToLeave(5)", line.runToLeave(5), CardLine.NONE);
        Check.due("now() then", line.now(), 5);
        Check.due("it is an action", line.count(9), 1);
        Check.due("runToLeave(1)", line.runToLeave(1), 1);
        Check.due("runToLeave(2000)", line.runToLeave(2000), 5);
        Check.due("now() then", line.now(), 11);
        Check.due("runToLeave(2000) in vain", line.runToLeave(2000), CardLine.NONE);
        Check.due("now() in the end", line.now(), 2011);
        CardLine tray = Check.line("line 99 50 2 5;chip 1 0;lot 0;card 0 a;card 0 b");
        tray.swap(0, 1);
        tray.run(2);
        tray.stop(0, true);
        Check.due("runToLeave() with a card in the tray", tray.runToLeave(9), CardLine.NONE);
        tray.stop(0, false);
        Check.due("runToLeave() of two at once", tray.runToLeave(9), 1);
        Check.due("both have left", tray.count(7), 2);
        Check.dueArgument("runToLeave(0)", () -> line.runToLeave(0));
        Check.dueArgument("runToLeave(2001)", () -> line.runToLeave(2001));
        Check.dueArgument("runToLeave(-5)", () -> line.runToLeave(-5));
    }

    /** With as many stations, lots and cards as there can be no row ends too early. */
    private static void fullHouse() {
        StringBuilder text = new StringBuilder("line 9 99 20 9");
        for (int number = 0; number < 6; number++) {
            text.append(";chip 1 0;lot ").append(number);
        }
        for (int card = 0; card < 30; card++) {
            text.append(";card5a");
        }
        CardLine line = Check.line(text.toString());
        for (int station = 0; station < 6; station++) {
            Check.due("stop(" + station + ", true)", line.stop(station, true), station + 1);
        }
        for (int station = 0; station < 6; station++) {
            Check.due("stop(" + station + ", false)", line.stop(station, false), 5 - station);
        }
        for (int card = 0; card < 29; card++) {
            Check.due("rush(" + card + ")", line.rush(card), card + 1);
        }
        Check.due("nextFed()", line.nextFed(), 0);
        Check.due("swap(0, 29)", line.swap(0, 29), 29);
        Check.due("lotBy(5)", line.lotBy(5), 5);
        Check.due("lotBy(6)", line.lotBy(6), CardLine.NONE);
        Check.due("order(5)", Check.order(line, 5, "a"), -101);
        Check.due("cards that left", line.run(2000), 0);
        Check.due("cards in the tray", line.count(6), 20);
        Check.due("blanks", line.count(3), 0);
        line.refill(999);
        line.rush(29);
        Check.due("cards that left then", line.run(2000), 30);
        Check.due("leftAt(0)", line.leftAt(0), 29);
        Check.due("leftAt(29)", line.leftAt(29), 0);
        Check.due("lot(5, 2)", line.lot(5, 2), 30);
    }

    private static void whatChangesNothing() {
        CardLine line = Check.line(TWO_LOTS);
        line.run(6);
        for (int time = 0; time < 9; time++) {
            line.refill(999);
        }
        line.run(1);
        line.stop(0, true);
        Check.append(line, "a");
        String before = Check.look(line);
        int actions = line.count(9);
        line.refill(999);
        line.giveUp(0);
        line.rush(0);
        line.swap(1, 0);
        Check.dueArgument("run(0)", () -> line.run(0));
        Check.dueArgument("swap(1, 1)", () -> line.swap(1, 1));
        Check.dueArgument("setRest(0, 1, 0)", () -> line.setRest(0, 1, 0));
        Check.dueIndex("stop(7, true)", () -> line.stop(7, true));
        Check.dueIndex("order(7)", () -> line.order(7));
        Check.due("refill(999)", line.refill(999), CardLine.FULL);
        Check.dueText("errors and exceptions change nothing", Check.look(line), before);
        Check.due("the actions behind them", line.count(9), actions);
        Check.due("the buffer behind them", line.append(0), 1);
    }
}
