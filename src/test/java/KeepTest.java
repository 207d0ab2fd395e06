/** Promises 49 to 53: the output, undo and snapshots. */
public final class KeepTest {
    private static final String TEXT = "line 5 40 2 3;chip 2 0010;wheel 4 01;rest 0 3 4;lot 5;lot 1;card 0 a;card 0 xyz;"
        + "card 1 b;card 0 k;card 1 2(ab);card 0 c";

    public static void main(String[] args) {
        promise49And50();
        promise51();
        undoOfEach();
        undoOfBusyTicks();
        snapshotOfAnotherWay();
        promise52And53();
        whatSnapshotsLeave();
        Check.end("KeepTest");
    }

    private static void output(CardLine line, String due) {
        for (int index = 0; index < due.length(); index++) {
            Check.due("outputByte(" + index + ") of " + due, line.outputByte(index), due.charAt(index));
        }
        Check.due("outputByte() behind " + due, line.outputByte(due.length()), CardLine.NONE);
        Check.due("outputByte(-1)", line.outputByte(-1), CardLine.NONE);
        Check.due("outputByte(MIN)", line.outputByte(Integer.MIN_VALUE), CardLine.NONE);
        Check.due("outputByte(MAX)", line.outputByte(Integer.MAX_VALUE), CardLine.NONE);
    }

    private static void promise49And50() {
        CardLine line = Check.line(TEXT + ";card 0 abcdefghijklmnoz");
        output(line, "");
        Check.due("writeCard(1)", line.writeCard(1), 3);
        output(line, "xyz");
        Check.due("writeCard(4)", line.writeCard(4), 4);
        output(line, "abab");
        Check.due("writeCard(6)", line.writeCard(6), 16);
        output(line, "abcdefghijklmnoz");
        Check.due("writeCard(0)", line.writeCard(0), 1);
        output(line, "a");
        Check.due("it is no action", line.count(9), 0);
        Check.dueIndex("writeCard(-1)", () -> line.writeCard(-1));
        Check.dueIndex("writeCard(7)", () -> line.writeCard(7));
        output(line, "a");
        line.run(9);
        line.writeCard(1);
        line.undo();
        output(line, "xyz");
    }

    private static void promise51() {
        CardLine line = Check.line(TEXT);
        Check.due("undo() at first", line.undo(), CardLine.NONE);
        for (int rank = 0; rank <= 9; rank++) {
            line.setRank(0, rank);
            Check.due("count(9) behind setRank(0, " + rank + ")", line.count(9), Math.min(rank + 1, 8));
        }
        for (int rank = 8; rank >= 1; rank--) {
            Check.due("undo() to " + rank, line.undo(), rank - 1);
            Check.due("RANK then", line.lot(0, 0), rank);
        }
        Check.due("undo() of the ninth", line.undo(), CardLine.NONE);
        Check.due("RANK stays", line.lot(0, 0), 1);
        line.setRank(0, 1);
        Check.due("what changes nothing counts too", line.count(9), 1);
        line.setRank(0, 3);
        line.undo();
        line.setRank(0, 4);
        Check.due("count(9) behind undo() and an action", line.count(9), 2);
        line.undo();
        Check.due("RANK behind undo()", line.lot(0, 0), 1);
        line.undo();
        Check.due("RANK behind the last undo()", line.lot(0, 0), 1);
        Check.due("undo() in the end", line.undo(), CardLine.NONE);
    }

    private interface Action {
        int act(CardLine line);
    }

    private static void undone(String name, Action action) {
        CardLine line = Check.line(TEXT);
        line.stop(1, true);
        line.run(7);
        line.giveUp(2);
        String before = Check.look(line);
        int actions = line.count(9);
        Check.due(name + " is no error", action.act(line) > -2 ? 1 : 0, 1);
        Check.due("count(9) behind " + name, line.count(9), actions + 1);
        String behind = Check.look(line);
        Check.due("undo() of " + name, line.undo(), actions);
        Check.dueText("the line behind undo() of " + name, Check.look(line), before);
        action.act(line);
        Check.dueText("the line behind " + name + " again", Check.look(line), behind);
        line.undo();
        Check.due("undo() of giveUp()", line.undo(), actions - 1);
        Check.due("the card that was given up", line.card(2, 3), 0);
    }

    private static void undoOfEach() {
        undone("order()", line -> Check.order(line, 1, "q"));
        undone("giveUp()", line -> line.giveUp(3));
        undone("setRank()", line -> line.setRank(0, 0));
        undone("refill()", line -> line.refill(7));
        undone("setPace()", line -> line.setPace(0, 9));
        undone("stop()", line -> line.stop(1, false));
        undone("setRest()", line -> line.setRest(0, 0, 0));
        undone("rush()", line -> line.rush(5));
        undone("swap()", line -> line.swap(5, 3));
        undone("setTries()", line -> line.setTries(9));
        undone("setTray()", line -> line.setTray(9));
        undone("run()", line -> line.run(9));
        undone("runToLeave()", line -> line.runToLeave(9));
    }

    private static void undoOfBusyTicks() {
        CardLine line = Check.line("line 4 99 1 2;chip 1 010;wheel 9 0;rest 0 3 1;lot 5;lot 5;card 0 a;card 1 x;card 0 b;"
            + "card 1 k;card 0 c;card 0 d;card 1 q;card 1 r;card 0 e");
        line.swap(0, 4);
        line.swap(1, 6);
        String[] looks = new String[7];
        for (int action = 0; action < looks.length; action++) {
            looks[action] = Check.look(line);
            line.run(5);
            if (action == 2) {
                line.saveSnapshot(0);
            }
        }
        Check.due("cards were scrapped", line.total(2) > 3 ? 1 : 0, 1);
        Check.due("cards failed", line.total(1) > 3 ? 1 : 0, 1);
        Check.due("cards left", line.count(7) > 3 ? 1 : 0, 1);
        for (int action = looks.length - 1; action >= 0; action--) {
            line.undo();
            Check.dueText("the line behind undo() to run no. " + action, Check.look(line), looks[action]);
        }
        line.run(2000);
        line.restoreSnapshot(0);
        Check.dueText("the snapshot of a busy line", Check.look(line), looks[3]);
    }

    /** Behind a snapshot things may come otherwise, and nothing of that may be left behind it. */
    private static void snapshotOfAnotherWay() {
        CardLine line = Check.line("line 3 99 9 2;chip 1 0001;lot 5;lot 5;card 0 a;card 1 x;card 0 b;card 1 k;card 0 c");
        line.saveSnapshot(0);
        line.run(11);
        String oneWay = Check.look(line);
        line.saveSnapshot(1);
        line.restoreSnapshot(0);
        line.rush(3);
        line.swap(1, 3);
        line.swap(0, 2);
        line.stop(0, true);
        line.run(4);
        line.stop(0, false);
        line.run(25);
        Check.due("what left first", line.leftAt(0), 3);
        Check.due("all have left", line.count(7), 5);
        line.restoreSnapshot(1);
        Check.dueText("the snapshot of the one way", Check.look(line), oneWay);
    }

    private static void promise52And53() {
        CardLine line = Check.line(TEXT);
        Check.due("restoreSnapshot(0) of nothing", line.restoreSnapshot(0), CardLine.NONE);
        line.run(6);
        Check.due("restoreSnapshot(1) of nothing", line.restoreSnapshot(1), CardLine.NONE);
        Check.due("actions then", line.count(9), 1);
        line.swap(2, 4);
        line.rush(4);
        String first = Check.look(line);
        Check.due("saveSnapshot(0)", line.saveSnapshot(0), 6);
        Check.due("it is no action", line.count(9), 3);
        line.run(20);
        String second = Check.look(line);
        Check.due("saveSnapshot(1)", line.saveSnapshot(1), 26);
        line.run(3);
        Check.due("restoreSnapshot(0)", line.restoreSnapshot(0), 6);
        Check.dueText("the first snapshot", Check.look(line), first);
        Check.due("undo() then", line.undo(), CardLine.NONE);
        line.run(9);
        line.setTray(8);
        Check.due("restoreSnapshot(1)", line.restoreSnapshot(1), 26);
        Check.dueText("the second snapshot", Check.look(line), second);
        Check.due("restoreSnapshot(0) again", line.restoreSnapshot(0), 6);
        Check.dueText("the first snapshot stays", Check.look(line), first);
        line.run(20);
        Check.dueText("it goes on as before", Check.look(line), second);
        line.saveSnapshot(0);
        line.run(1);
        line.restoreSnapshot(0);
        Check.dueText("a snapshot is replaced", Check.look(line), second);
        Check.load(line, "line 9 0 1 1");
        Check.due("restoreSnapshot(1) behind load()", line.restoreSnapshot(1), 26);
        Check.dueText("the snapshot behind load()", Check.look(line), second);
        for (int slot : new int[] {-1, 2, Integer.MIN_VALUE, Integer.MAX_VALUE}) {
            Check.dueArgument("saveSnapshot(" + slot + ")", () -> line.saveSnapshot(slot));
            Check.dueArgument("restoreSnapshot(" + slot + ")", () -> line.restoreSnapshot(slot));
        }
    }

    private static void whatSnapshotsLeave() {
        CardLine line = Check.line(TEXT);
        line.writeCard(0);
        line.saveSnapshot(0);
        Check.load(line, "line 9 0 1 1;lot x");
        Check.load(line, "line 9 0 1 1;lot 1;card 0 hij");
        line.writeCard(0);
        Check.order(line, 0, "12");
        Check.append(line, "abc");
        line.saveSnapshot(1);
        line.restoreSnapshot(0);
        Check.due("the buffer stays", line.append(0), 3);
        Check.due("the output stays", line.outputByte(2), 'j');
        Check.due("loadError() stays", line.loadError(), 2);
        Check.due("loadStatement() stays", line.loadStatement(), 0);
        Check.due("the other snapshot stays", line.restoreSnapshot(1), 0);
        Check.due("its cards", line.count(2), 1);
        Check.due("the buffer is read then", line.order(0), 1);
    }
}
