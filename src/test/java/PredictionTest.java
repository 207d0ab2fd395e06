/** Promises 39 to 48: the predictions, which change nothing. */
public final class PredictionTest {
    public static void main(String[] args) {
        promise39();
        promise40();
        promise41();
        promise42();
        promise43();
        promise44();
        promise45();
        promise46();
        promise47();
        promise48();
        the2000Ticks();
        nothingChanges();
        Check.end("PredictionTest");
    }

    private static void promise39() {
        CardLine line = Check.line("line 99 9 1 1;chip 3 0;lot 0;card 0 a;card 0 b;card 0 c");
        Check.due("leavesIn(0)", line.leavesIn(0), 4);
        Check.due("leavesIn(1)", line.leavesIn(1), 7);
        line.giveUp(2);
        Check.due("leavesIn(2) given up", line.leavesIn(2), CardLine.NONE);
        line.run(3);
        Check.due("leavesIn(0) behind 3 ticks", line.leavesIn(0), 1);
        line.run(1);
        Check.due("leavesIn(0) of one that left", line.leavesIn(0), 0);
        Check.due("leavesIn(1) then", line.leavesIn(1), 3);
        line.stop(0, true);
        Check.due("leavesIn(1) stopped", line.leavesIn(1), CardLine.NONE);
        CardLine tray = Check.line("line 99 9 1 1;chip 1 0;chip 4 0;lot 0;card 0 a;card 0 b");
        tray.swap(0, 1);
        tray.run(6);
        Check.due("leavesIn(0) in the tray", tray.leavesIn(0), 4);
        Check.due("leavesIn(1) ahead of it", tray.leavesIn(1), 4);
        CardLine freed = Check.line("line 99 1 1 1;chip 1 0;lot 0;card 0 a;card 0 b");
        freed.swap(0, 1);
        freed.run(5);
        Check.due("leavesIn(0) held up for ever", freed.leavesIn(0), CardLine.NONE);
        freed.giveUp(1);
        Check.due("leavesIn(0) held up no more", freed.leavesIn(0), 1);
        Check.due("allIn() then", freed.allIn(), 1);
        Check.dueIndex("leavesIn(-1)", () -> line.leavesIn(-1));
        Check.dueIndex("leavesIn(3)", () -> line.leavesIn(3));
    }

    private static void promise40() {
        CardLine line = Check.line("line 99 9 1 1;chip 3 01;lot 0;lot 0;lot 9;card 0 a;card 1 b;card 0 c");
        Check.due("lotIn(0)", line.lotIn(0), 10);
        Check.due("lotIn(1) of one that fails", line.lotIn(1), 7);
        Check.due("lotIn(2) without cards", line.lotIn(2), 0);
        line.giveUp(1);
        Check.due("lotIn(1) given up", line.lotIn(1), 0);
        Check.due("lotIn(0) then", line.lotIn(0), 7);
        line.run(7);
        Check.due("lotIn(0) in the end", line.lotIn(0), 0);
        CardLine none = Check.line("line 99 0 1 1;chip 3 0;lot 0;card 0 a");
        Check.due("lotIn(0) without a blank", none.lotIn(0), CardLine.NONE);
        Check.dueIndex("lotIn(-1)", () -> line.lotIn(-1));
        Check.dueIndex("lotIn(3)", () -> line.lotIn(3));
    }

    private static void promise41() {
        CardLine line = Check.line("line 99 9 1 1;chip 3 01;lot 0;lot 0;card 0 a;card 1 b;card 0 c");
        Check.due("allIn()", line.allIn(), 10);
        line.giveUp(2);
        Check.due("allIn() without a card", line.allIn(), 7);
        line.run(6);
        Check.due("allIn() behind 6 ticks", line.allIn(), 1);
        line.run(1);
        Check.due("allIn() in the end", line.allIn(), 0);
        CardLine none = Check.line("line 99 9 1 1;lot 0;card 0 a");
        Check.due("allIn() without stations", none.allIn(), CardLine.NONE);
        none.giveUp(0);
        Check.due("allIn() of cards that were given up", none.allIn(), 0);
        Check.due("allIn() without cards", Check.line("line 99 9 1 1;chip 3 0").allIn(), 0);
    }

    private static void promise42() {
        CardLine line = slow();
        Check.due("leftIn(1)", line.leftIn(1), 0);
        Check.due("leftIn(99)", line.leftIn(99), 0);
        Check.due("leftIn(100)", line.leftIn(100), 1);
        Check.due("leftIn(2000)", line.leftIn(2000), 20);
        line.run(1000);
        Check.due("leftIn(1) then", line.leftIn(1), 10);
        Check.due("leftIn(2000) then", line.leftIn(2000), 21);
        Check.dueArgument("leftIn(0)", () -> line.leftIn(0));
        Check.dueArgument("leftIn(-1)", () -> line.leftIn(-1));
        Check.dueArgument("leftIn(2001)", () -> line.leftIn(2001));
    }

    private static void promise43() {
        CardLine line = Check.line("line 99 9 1 9;chip 1 0100;wheel 1 01;lot 0;card 0 a;card 0 a;card 0 a");
        Check.due("failIn(0)", line.failIn(0), 3);
        Check.due("failIn(1)", line.failIn(1), 5);
        line.run(3);
        Check.due("failIn(0) behind a fail", line.failIn(0), 5);
        Check.due("failIn(1) then", line.failIn(1), 2);
        line.stop(1, true);
        Check.due("failIn(1) stopped", line.failIn(1), CardLine.NONE);
        line.setTries(1);
        line.stop(1, false);
        Check.due("failIn(1) of one that is given up", line.failIn(1), 2);
        CardLine never = Check.line("line 99 9 1 9;chip 1 0;lot 0;card 0 a");
        Check.due("failIn(0) without a sign 1", never.failIn(0), CardLine.NONE);
        Check.dueIndex("failIn(-1)", () -> line.failIn(-1));
        Check.dueIndex("failIn(2)", () -> line.failIn(2));
    }

    private static void promise44() {
        CardLine line = slow();
        Check.due("blanksIn(1)", line.blanksIn(1), 98);
        Check.due("blanksIn(99)", line.blanksIn(99), 98);
        Check.due("blanksIn(100)", line.blanksIn(100), 97);
        Check.due("blanksIn(2000)", line.blanksIn(2000), 78);
        line.refill(100);
        Check.due("blanksIn(1) behind refill()", line.blanksIn(1), 198);
        Check.dueArgument("blanksIn(0)", () -> line.blanksIn(0));
        Check.dueArgument("blanksIn(2001)", () -> line.blanksIn(2001));
        Check.dueArgument("blanksIn(MIN)", () -> line.blanksIn(Integer.MIN_VALUE));
    }

    private static void promise45() {
        CardLine line = Check.line("line 99 9 1 1;chip 1 0;chip 2 0;rest 0 2 5;rest 1 1 1;lot 0;card 0 a;card 0 b;card 0 c");
        Check.due("restIn(0)", line.restIn(0), 3);
        Check.due("restIn(1)", line.restIn(1), 4);
        line.run(3);
        Check.due("restIn(0) in a rest", line.restIn(0), 0);
        Check.due("restIn(1) then", line.restIn(1), 1);
        line.setRest(0, 0, 0);
        Check.due("restIn(0) of a rest that goes on", line.restIn(0), 0);
        line.run(5);
        Check.due("restIn(0) without a rest", line.restIn(0), CardLine.NONE);
        CardLine never = Check.line("line 99 9 1 1;chip 1 0;rest 0 4 5;lot 0;card 0 a");
        Check.due("restIn(0) with too few cards", never.restIn(0), CardLine.NONE);
        Check.dueIndex("restIn(-1)", () -> line.restIn(-1));
        Check.dueIndex("restIn(2)", () -> line.restIn(2));
    }

    private static void lotOrder(CardLine line, String when, int... due) {
        for (int place = 0; place < due.length; place++) {
            Check.due("lotBy(" + place + ") " + when, line.lotBy(place), due[place]);
        }
        Check.due("lotBy(-1) " + when, line.lotBy(-1), CardLine.NONE);
        Check.due("lotBy(" + due.length + ") " + when, line.lotBy(due.length), CardLine.NONE);
        Check.due("lotBy(MAX) " + when, line.lotBy(Integer.MAX_VALUE), CardLine.NONE);
    }

    private static void promise46() {
        CardLine line = Check.line("line 99 4 1 1;chip 3 0;lot 0;lot 2;lot 9;lot 9;lot 1;lot 0;"
            + "card 0 a;card 1 b;card 3 c;card 4 d;card 5 e");
        lotOrder(line, "at first", 2, 3, 1, 4, 0, 5);
        line.setRank(5, 8);
        lotOrder(line, "with another RANK", 2, 3, 5, 1, 4, 0);
        line.giveUp(4);
        lotOrder(line, "without a card", 2, 5, 3, 1, 4, 0);
        line.stop(0, true);
        lotOrder(line, "stopped", 2, 5, 0, 1, 3, 4);
        lotOrder(new CardLine(), "without lots");
        CardLine tie = Check.line("line 99 9 3 1;chip 1 0;chip 9 0;lot 0;lot 0;card 1 b;card 1 c;card 0 a;card 0 d");
        tie.run(2000);
        lotOrder(tie, "of finished lots", 0, 1);
    }

    private static void promise47() {
        CardLine line = Check.line("line 99 9 1 1;chip 3 0;lot 2;lot 5;lot 0;card 1 c;card 0 a;card 1 d");
        Check.due("bestRank(0)", line.bestRank(0), 6);
        Check.due("bestRank(1)", line.bestRank(1), 3);
        Check.due("bestRank(2) without cards", line.bestRank(2), 0);
        line.setRank(0, 9);
        Check.due("bestRank(1) against 9", line.bestRank(1), 0);
        line.giveUp(2);
        Check.due("bestRank(1) of the first card", line.bestRank(1), 9);
        line.stop(0, true);
        Check.due("bestRank(0) stopped", line.bestRank(0), CardLine.NONE);
        line.giveUp(1);
        Check.due("bestRank(0) finished", line.bestRank(0), 0);
        CardLine blank = Check.line("line 99 1 1 1;chip 3 0;lot 2;lot 5;card 1 c;card 0 a");
        Check.due("bestRank(0) with one blank", blank.bestRank(0), 6);
        Check.dueIndex("bestRank(-1)", () -> line.bestRank(-1));
        Check.dueIndex("bestRank(3)", () -> line.bestRank(3));
    }

    private static void promise48() {
        CardLine line = Check.line("line 99 9 1 1;chip 1 0;chip 1 0;lot 0;card 0 a;card 0 b;card 0 c");
        Check.due("bestTray() without need", line.bestTray(), 1);
        line.setTray(9);
        Check.due("bestTray() with a greater one", line.bestTray(), 1);
        line.setTray(1);
        line.swap(0, 2);
        Check.due("allIn() with TRAY 1", line.allIn(), 6);
        Check.due("bestTray()", line.bestTray(), 2);
        line.setTray(2);
        Check.due("allIn() with TRAY 2", line.allIn(), 5);
        line.stop(0, true);
        Check.due("bestTray() stopped", line.bestTray(), CardLine.NONE);
        Check.due("bestTray() without cards", new CardLine().bestTray(), 1);
        StringBuilder many = new StringBuilder("line 99 999 1 1;chip 1 0;lot 0");
        for (int card = 0; card < 22; card++) {
            many.append(";card0a");
        }
        CardLine reversed = Check.line(many.toString());
        reversed.swap(0, 20);
        Check.due("bestTray() of 20", reversed.bestTray(), 20);
        reversed.swap(20, 21);
        Check.due("bestTray() of 21", reversed.bestTray(), CardLine.NONE);
    }

    private static CardLine slow() {
        return Check.line(slowText("chip 99 0"));
    }

    /** 21 cards, the last of which leaves with tick 2080 if each needs 99 ticks. */
    private static String slowText(String station) {
        StringBuilder text = new StringBuilder("line 99 99 1 1;" + station + ";lot 0;lot 0");
        for (int card = 0; card < 21; card++) {
            text.append(card == 20 ? ";card1a" : ";card0a");
        }
        return text.toString();
    }

    private static void the2000Ticks() {
        CardLine line = slow();
        line.run(79);
        Check.due("leavesIn(20) behind 2001", line.leavesIn(20), CardLine.NONE);
        Check.due("lotIn(1) behind 2001", line.lotIn(1), CardLine.NONE);
        Check.due("allIn() behind 2001", line.allIn(), CardLine.NONE);
        Check.due("bestRank(1) where the last one comes first", line.bestRank(1), 1);
        Check.due("bestTray() behind 2001", line.bestTray(), CardLine.NONE);
        Check.due("lotBy(0)", line.lotBy(0), 0);
        line.run(1);
        Check.due("leavesIn(20) behind 2000", line.leavesIn(20), 2000);
        Check.due("lotIn(1) behind 2000", line.lotIn(1), 2000);
        Check.due("allIn() behind 2000", line.allIn(), 2000);
        Check.due("bestTray() behind 2000", line.bestTray(), 1);
        CardLine two = Check.line(slowText("chip 99 0") + ";card0a");
        two.run(80);
        Check.due("lotIn(0) behind 2099", two.lotIn(0), CardLine.NONE);
        Check.due("lotIn(1) of two behind 2000", two.lotIn(1), 2000);
        lotOrder(two, "with 2000 and NONE", 1, 0);
        CardLine rests = Check.line(slowText("chip 99 0;rest 0 21 1"));
        rests.run(79);
        Check.due("restIn(0) behind 2001", rests.restIn(0), CardLine.NONE);
        rests.run(1);
        Check.due("restIn(0) behind 2000", rests.restIn(0), 2000);
        CardLine fails = Check.line(slowText("chip 99 00000000001;rest 0 1 99"));
        fails.run(79);
        Check.due("failIn(0) behind 2001", fails.failIn(0), CardLine.NONE);
        fails.run(1);
        Check.due("failIn(0) behind 2000", fails.failIn(0), 2000);
    }

    private static void pass(CardLine line, int ticks) {
        for (int passed = 0; passed < ticks; passed++) {
            line.run(1);
        }
    }

    private static void nothingChanges() {
        CardLine line = Check.line("line 7 99 1 9;chip 2 0010;wheel 4 01;rest 0 3 4;lot 5;lot 1;lot 4;card 0 a;card 0 xyz;"
            + "card 1 b;card 2 m;card 0 k;card 2 3(ab);card 1 zz");
        line.swap(0, 4);
        line.run(9);
        line.writeCard(5);
        String before = Check.look(line);
        line.leavesIn(1);
        line.lotIn(0);
        line.allIn();
        line.leftIn(2000);
        line.failIn(1);
        line.blanksIn(2000);
        line.restIn(0);
        line.lotBy(1);
        line.bestRank(1);
        line.bestTray();
        Check.dueText("the line behind predictions", Check.look(line), before);
        Check.due("the actions behind predictions", line.count(9), 2);
        Check.due("the output behind predictions", line.outputByte(5), 'b');
        int ticks = line.lotIn(0);
        int all = line.allIn();
        int leaves = line.leavesIn(1);
        int left = line.leftIn(leaves);
        int blanks = line.blanksIn(ticks);
        pass(line, leaves - 1);
        Check.due("the card has not left", line.card(1, 3) == 3 ? 1 : 0, 0);
        line.run(1);
        Check.due("the card has left", line.card(1, 3), 3);
        Check.due("the cards that left", line.count(7), left);
        pass(line, ticks - leaves);
        Check.due("the blanks", line.count(3), blanks);
        Check.due("the lot's cards", line.lot(0, 2) + line.lot(0, 3), line.lot(0, 1));
        pass(line, all - ticks);
        Check.due("all cards", line.count(7) + line.count(8), line.count(2));
    }
}
