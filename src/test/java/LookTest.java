/** Promises 6 to 18: the calls that look at the line, its cards and its lots. */
public final class LookTest {
    private static final String TEXT =
        "line 10 9 2 3;print 2 01;wheel 4 0;rest 1 7 8;lot 1;lot 5;card 0 ab;card 0 2(z);card 1 c";

    public static void main(String[] args) {
        promise6();
        promise7();
        promise8();
        promise9();
        promise10();
        promise11();
        promise12();
        promise13();
        promise14();
        promise15();
        promise16();
        promise17();
        promise18();
        Check.end("LookTest");
    }

    private static void counts(CardLine line, String when, int... due) {
        for (int what = 0; what < due.length; what++) {
            Check.due("count(" + what + ") " + when, line.count(what), due[what]);
        }
    }

    private static void promise6() {
        CardLine line = Check.line(TEXT);
        counts(line, "at first", 2, 2, 3, 9, 3, 0, 0, 0, 0, 0);
        line.run(1);
        counts(line, "behind 1 tick", 2, 2, 3, 8, 2, 1, 0, 0, 0, 1);
        line.giveUp(1);
        counts(line, "behind giveUp()", 2, 2, 3, 8, 1, 1, 0, 0, 1, 2);
        line.run(2);
        counts(line, "behind 3 ticks", 2, 2, 3, 7, 0, 2, 0, 0, 1, 3);
        line.run(2);
        counts(line, "behind 5 ticks", 2, 2, 3, 6, 0, 1, 0, 1, 1, 4);
        CardLine tray = Check.line("line 9 9 1 1;chip 1 0;lot 0;card 0 a;card 0 b");
        tray.swap(0, 1);
        tray.run(2);
        counts(tray, "with a card in the tray", 1, 1, 2, 7, 0, 1, 1, 0, 0, 2);
        Check.dueArgument("count(-1)", () -> line.count(-1));
        Check.dueArgument("count(10)", () -> line.count(10));
        Check.dueArgument("count(MIN)", () -> line.count(Integer.MIN_VALUE));
        Check.dueArgument("count(MAX)", () -> line.count(Integer.MAX_VALUE));
    }

    private static void promise7() {
        CardLine line = Check.line(TEXT);
        line.run(3);
        line.refill(5);
        line.refill(6);
        line.setTray(7);
        line.setTries(8);
        int[] due = {10, 7, 8, 9, 11};
        for (int what = 0; what < due.length; what++) {
            Check.due("setting(" + what + ")", line.setting(what), due[what]);
        }
        Check.dueArgument("setting(-1)", () -> line.setting(-1));
        Check.dueArgument("setting(5)", () -> line.setting(5));
    }

    private static void stations(CardLine line, String when, int station, int... due) {
        for (int what = 0; what < due.length; what++) {
            Check.due("station(" + station + ", " + what + ") " + when, line.station(station, what), due[what]);
        }
    }

    private static void promise8() {
        CardLine line = Check.line(TEXT);
        stations(line, "at first", 0, 2, 2, -1, 0, 0, 0, 0, 0, -1, 0, 0, 0, 0);
        stations(line, "at first", 1, 3, 4, -1, 0, 0, 0, 0, 0, 0, 7, 8, 0, 0);
        line.run(3);
        stations(line, "behind 3 ticks", 0, 2, 2, 0, 2, 1, 0, 1, 0, -1, 0, 0, 0, 2);
        stations(line, "behind 3 ticks", 1, 3, 4, 2, 2, 0, 0, 0, 0, 2, 7, 8, 0, 0);
        line.stop(1, true);
        line.setRest(0, 1, 4);
        line.run(2);
        stations(line, "behind 5 ticks", 0, 2, 2, 0, 2, 2, 1, 1, 0, -1, 1, 4, 4, 4);
        stations(line, "behind 5 ticks", 1, 3, 4, 2, 2, 0, 0, 0, 1, 2, 7, 8, 0, 0);
        line.stop(1, false);
        line.setRest(0, 0, -5);
        line.run(2);
        stations(line, "behind 7 ticks", 0, 2, 2, 0, 2, 2, 1, 1, 0, -1, 0, 0, 2, 4);
        stations(line, "behind 7 ticks", 1, 3, 4, -1, 0, 1, 0, 1, 0, 2, 7, 8, 0, 2);
        CardLine ready = Check.line("line 9 9 1 1;stripe 1 0;chip 9 0;lot 0;card 0 a;card 0 a");
        ready.run(3);
        stations(ready, "with a ready card", 0, 1, 1, 1, 0, 2, 0, 1, 0, -1, 0, 0, 0, 2);
        stations(ready, "that works", 1, 0, 9, 0, 8, 0, 0, 0, 0, -1, 0, 0, 0, 1);
        Check.dueIndex("station(-1, 0)", () -> line.station(-1, 0));
        Check.dueIndex("station(2, 0)", () -> line.station(2, 0));
        Check.dueIndex("station(2, 13)", () -> line.station(2, 13));
        Check.dueArgument("station(1, -1)", () -> line.station(1, -1));
        Check.dueArgument("station(1, 13)", () -> line.station(1, 13));
    }

    private static void cards(CardLine line, String when, int card, int... due) {
        for (int what = 0; what < due.length; what++) {
            Check.due("card(" + card + ", " + what + ") " + when, line.card(card, what), due[what]);
        }
    }

    private static void promise9() {
        CardLine line = Check.line("line 99 9 1 2;chip 1 100;chip 1 0;lot 0;lot 1;card 0 ab;card 1 c;card 1 ddd");
        line.giveUp(0);
        line.swap(1, 2);
        cards(line, "given up", 0, 0, 0, 2, 4, -1, 0, 0, -1);
        cards(line, "at first", 1, 1, 1, 1, 0, -1, 0, 0, -1);
        line.run(1);
        cards(line, "on the line", 1, 1, 1, 1, 1, 0, 0, 0, -1);
        line.run(1);
        cards(line, "fed again", 1, 1, 1, 1, 1, 0, 1, 0, -1);
        line.run(1);
        cards(line, "in the second station", 1, 1, 1, 1, 1, 1, 1, 0, -1);
        line.run(1);
        cards(line, "in the tray", 1, 1, 1, 1, 2, -1, 1, 0, -1);
        cards(line, "behind it", 2, 1, 0, 3, 1, 1, 0, 0, -1);
        line.run(1);
        cards(line, "that left from the line", 2, 1, 0, 3, 3, -1, 0, 0, 4);
        cards(line, "that left from the tray", 1, 1, 1, 1, 3, -1, 1, 0, 4);
        CardLine scrapped = trays();
        scrapped.run(4);
        cards(scrapped, "that was scrapped twice", 1, 0, 1, 1, 1, 0, 0, 2, -1);
        Check.dueIndex("card(-1, 0)", () -> line.card(-1, 0));
        Check.dueIndex("card(3, 0)", () -> line.card(3, 0));
        Check.dueIndex("card(3, 8)", () -> line.card(3, 8));
        Check.dueArgument("card(2, -1)", () -> line.card(2, -1));
        Check.dueArgument("card(2, 8)", () -> line.card(2, 8));
    }

    private static void promise10() {
        CardLine line = Check.line(TEXT);
        Check.due("letter(0, 0)", line.letter(0, 0), 0);
        Check.due("letter(0, 1)", line.letter(0, 1), 1);
        Check.due("letter(0, 2)", line.letter(0, 2), CardLine.NONE);
        Check.due("letter(1, 1)", line.letter(1, 1), 25);
        Check.due("letter(1, 16)", line.letter(1, 16), CardLine.NONE);
        Check.due("letter(1, -1)", line.letter(1, -1), CardLine.NONE);
        Check.due("letter(1, MAX)", line.letter(1, Integer.MAX_VALUE), CardLine.NONE);
        Check.due("letter(1, MIN)", line.letter(1, Integer.MIN_VALUE), CardLine.NONE);
        Check.dueIndex("letter(-1, 0)", () -> line.letter(-1, 0));
        Check.dueIndex("letter(3, 99)", () -> line.letter(3, 99));
    }

    private static void lots(CardLine line, String when, int lot, int... due) {
        for (int what = 0; what < due.length; what++) {
            Check.due("lot(" + lot + ", " + what + ") " + when, line.lot(lot, what), due[what]);
        }
    }

    private static void promise11() {
        CardLine line = Check.line("line 99 99 1 2;chip 1 0110;lot 3;lot 1;lot 0;card 0 a;card 0 b;card 1 c;card 0 d");
        lots(line, "at first", 0, 3, 3, 0, 0, 0, 0, 0);
        lots(line, "at first", 1, 1, 1, 0, 0, 0, 0, 2);
        lots(line, "without cards", 2, 0, 0, 0, 0, 0, 0, -1);
        line.run(3);
        lots(line, "behind a fail", 0, 3, 3, 1, 0, 1, 0, 1);
        line.run(1);
        lots(line, "behind a second fail", 0, 3, 3, 1, 1, 2, 0, 3);
        line.setRank(0, 0);
        line.giveUp(2);
        lots(line, "given up", 1, 1, 1, 0, 1, 0, 0, -1);
        line.run(1);
        lots(line, "in the end", 0, 0, 3, 2, 1, 2, 0, -1);
        CardLine scrapped = trays();
        scrapped.run(4);
        lots(scrapped, "with scrapped cards", 0, 0, 4, 0, 0, 0, 2, 3);
        Check.dueIndex("lot(-1, 0)", () -> line.lot(-1, 0));
        Check.dueIndex("lot(3, 7)", () -> line.lot(3, 7));
        Check.dueArgument("lot(0, -1)", () -> line.lot(0, -1));
        Check.dueArgument("lot(0, 7)", () -> line.lot(0, 7));
    }

    private static void promise12() {
        CardLine line = Check.line(TEXT);
        Check.due("cardOf(0, 0)", line.cardOf(0, 0), 0);
        Check.due("cardOf(0, 1)", line.cardOf(0, 1), 1);
        Check.due("cardOf(0, 2)", line.cardOf(0, 2), CardLine.NONE);
        Check.due("cardOf(0, -1)", line.cardOf(0, -1), CardLine.NONE);
        Check.due("cardOf(0, MAX)", line.cardOf(0, Integer.MAX_VALUE), CardLine.NONE);
        Check.due("cardOf(1, 0)", line.cardOf(1, 0), 2);
        line.swap(0, 1);
        Check.due("cardOf(0, 0) behind swap()", line.cardOf(0, 0), 1);
        Check.due("cardOf(0, 1) behind swap()", line.cardOf(0, 1), 0);
        line.giveUp(1);
        Check.due("cardOf(0, 0) given up", line.cardOf(0, 0), 1);
        Check.dueIndex("cardOf(-1, 0)", () -> line.cardOf(-1, 0));
        Check.dueIndex("cardOf(2, 0)", () -> line.cardOf(2, 0));
    }

    /** A lot whose last card by numbers is the first by places. */
    private static CardLine trays() {
        CardLine line = Check.line("line 99 99 1 9;chip 1 0;lot 0;card 0 a;card 0 b;card 0 c;card 0 d");
        Check.due("swap(0, 3)", line.swap(0, 3), 3);
        return line;
    }

    private static void promise13() {
        CardLine line = trays();
        Check.due("trayAt(0) at first", line.trayAt(0), CardLine.NONE);
        line.setTray(3);
        line.run(2);
        Check.due("trayAt(0)", line.trayAt(0), 0);
        Check.due("trayAt(1)", line.trayAt(1), CardLine.NONE);
        line.run(2);
        for (int index = 0; index < 3; index++) {
            Check.due("trayAt(" + index + ") of 3", line.trayAt(index), index);
        }
        Check.due("trayAt(3) of 3", line.trayAt(3), CardLine.NONE);
        Check.due("trayAt(-1)", line.trayAt(-1), CardLine.NONE);
        Check.due("trayAt(MIN)", line.trayAt(Integer.MIN_VALUE), CardLine.NONE);
        Check.due("trayAt(MAX)", line.trayAt(Integer.MAX_VALUE), CardLine.NONE);
        line.run(1);
        Check.due("trayAt(0) in the end", line.trayAt(0), CardLine.NONE);
        CardLine byNumbers = Check.line("line 99 99 3 9;chip 1 0;lot 0;card 0 a;card 0 b;card 0 c");
        byNumbers.swap(0, 2);
        byNumbers.rush(1);
        byNumbers.run(3);
        Check.due("trayAt(0) by numbers", byNumbers.trayAt(0), 0);
        Check.due("trayAt(1) by numbers", byNumbers.trayAt(1), 1);
    }

    private static void promise14() {
        CardLine line = trays();
        line.setTray(3);
        Check.due("leftAt(0) at first", line.leftAt(0), CardLine.NONE);
        line.run(4);
        Check.due("leftAt(0) with cards in the tray", line.leftAt(0), CardLine.NONE);
        line.run(1);
        int[] due = {3, 1, 2, 0, CardLine.NONE};
        for (int index = 0; index < due.length; index++) {
            Check.due("leftAt(" + index + ")", line.leftAt(index), due[index]);
        }
        Check.due("leftAt(-1)", line.leftAt(-1), CardLine.NONE);
        Check.due("leftAt(30)", line.leftAt(30), CardLine.NONE);
        Check.due("leftAt(MAX)", line.leftAt(Integer.MAX_VALUE), CardLine.NONE);
        Check.due("leftAt(MIN)", line.leftAt(Integer.MIN_VALUE), CardLine.NONE);
    }

    private static void promise15() {
        CardLine line = Check.line("line 99 4 1 9;chip 1 110;lot 1;lot 5;lot 5;card 0 a;card 1 b;card 2 c;card 1 d");
        Check.due("nextFed() by RANK", line.nextFed(), 1);
        line.rush(3);
        Check.due("nextFed() rushed", line.nextFed(), 3);
        line.rush(0);
        Check.due("nextFed() of two rushed ones", line.nextFed(), 0);
        line.run(1);
        Check.due("nextFed() of one rushed one", line.nextFed(), 3);
        line.run(1);
        Check.due("nextFed() of one that failed", line.nextFed(), 0);
        line.run(1);
        Check.due("nextFed() of two that failed", line.nextFed(), 3);
        line.run(1);
        Check.due("nextFed() of one that failed then", line.nextFed(), 1);
        Check.due("no blank", line.count(3), 0);
        line.run(5);
        Check.due("nextFed() without a blank", line.nextFed(), 3);
        line.giveUp(1);
        line.giveUp(2);
        Check.due("nextFed() of the last one", line.nextFed(), 3);
        line.giveUp(3);
        Check.due("nextFed() without a card", line.nextFed(), CardLine.NONE);
        CardLine none = Check.line("line 99 4 1 9;lot 1;card 0 a");
        Check.due("nextFed() without stations", none.nextFed(), 0);
        CardLine tray = trays();
        tray.rush(2);
        tray.run(3);
        Check.due("nextFed() with a scrapped card ahead of others", tray.card(0, 6) + 10 * tray.nextFed(), 11);
    }

    private static void promise16() {
        CardLine line = Check.line("line 9 9 1 1;lot 0;card 0 a;card 0 n;card 0 az;card 0 zazn;card 0 8(an)");
        Check.due("steps from a to a", line.steps(0, 0), 0);
        Check.due("steps from n to a", line.steps(0, 13), 13);
        Check.due("steps from o to a", line.steps(0, 14), 12);
        Check.due("steps from m to a", line.steps(0, 12), 12);
        Check.due("steps from z to a", line.steps(0, 25), 1);
        Check.due("steps from a to n", line.steps(1, 0), 13);
        Check.due("steps from z to n", line.steps(1, 25), 12);
        Check.due("steps for az", line.steps(2, 3), 4);
        Check.due("steps for zazn", line.steps(3, 0), 1 + 1 + 1 + 12);
        Check.due("steps for 8(an)", line.steps(4, 0), 15 * 13);
        Check.dueIndex("steps(-1, 0)", () -> line.steps(-1, 0));
        Check.dueIndex("steps(5, 26)", () -> line.steps(5, 26));
        Check.dueArgument("steps(0, -1)", () -> line.steps(0, -1));
        Check.dueArgument("steps(0, 26)", () -> line.steps(0, 26));
    }

    private static void promise17() {
        CardLine line = Check.line("line 99 9 1 1;wheel 4 0;chip 7 0;wheel 1 0;lot 0;card 0 a;card 0 e;card 0 fa;card 0 k");
        Check.due("ticksFor() of no steps", line.ticksFor(0, 0), 1);
        Check.due("ticksFor() of 4 steps", line.ticksFor(0, 1), 2);
        Check.due("ticksFor() of 10 steps", line.ticksFor(0, 2), 2 + 3);
        Check.due("ticksFor() of SPEED 1", line.ticksFor(2, 2), 2 + 10);
        Check.due("ticksFor() of a chip", line.ticksFor(1, 2), 7);
        line.setPace(0, 5);
        line.setPace(1, 9);
        Check.due("ticksFor() of another SPEED", line.ticksFor(0, 2), 2 + 2);
        Check.due("ticksFor() of another TIME", line.ticksFor(1, 2), 9);
        line.rush(3);
        line.run(1);
        Check.due("the wheel's letter", line.station(0, 8), 10);
        Check.due("ticksFor() from k", line.ticksFor(0, 0), 1 + 2);
        Check.due("ticksFor() on another wheel", line.ticksFor(2, 0), 1);
        Check.due("ticksFor() of the card in it", line.ticksFor(0, 3), 1);
        Check.dueIndex("ticksFor(-1, 0)", () -> line.ticksFor(-1, 0));
        Check.dueIndex("ticksFor(3, 0)", () -> line.ticksFor(3, 0));
        Check.dueIndex("ticksFor(0, -1)", () -> line.ticksFor(0, -1));
        Check.dueIndex("ticksFor(0, 4)", () -> line.ticksFor(0, 4));
    }

    private static void promise18() {
        CardLine line = new CardLine();
        Check.due("now() at first", line.now(), 0);
        line.run(1);
        Check.due("now() behind run(1)", line.now(), 1);
        line.run(2000);
        Check.due("now() behind run(2000)", line.now(), 2001);
        line.runToLeave(7);
        Check.due("now() behind runToLeave(7)", line.now(), 2008);
        line.leftIn(9);
        Check.due("now() behind leftIn(9)", line.now(), 2008);
    }
}
