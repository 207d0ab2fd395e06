/** The ticks of section 3, and promises 19 to 25: days, totals and parts. */
public final class TickTest {
    public static void main(String[] args) {
        oneStation();
        twoStations();
        failsAndTries();
        feeding();
        tray();
        rest();
        restWithReadyCard();
        stopped();
        wheels();
        promises19And20();
        keptDays();
        promise21();
        promises22To24();
        promise25();
        Check.end("TickTest");
    }

    private static void oneStation() {
        CardLine line = Check.line("line 99 9 1 1;chip 3 0;lot 0;card 0 a;card 0 b");
        int[] need = {3, 2, 1, 3, 2, 1, 0, 0};
        int[] inIt = {0, 0, 0, 1, 1, 1, -1, -1};
        int[] left = {0, 0, 0, 1, 1, 1, 2, 2};
        for (int tick = 0; tick < need.length; tick++) {
            Check.due("cards that left behind tick " + (tick + 1), line.run(1), left[tick]);
            Check.due("the card behind tick " + (tick + 1), line.station(0, 2), inIt[tick]);
            Check.due("its ticks behind tick " + (tick + 1), line.station(0, 3), need[tick]);
        }
        Check.due("when card 0 left", line.card(0, 7), 3);
        Check.due("when card 1 left", line.card(1, 7), 6);
        Check.due("blanks", line.count(3), 7);
        Check.due("ticks of work", line.station(0, 12), 6);
    }

    private static void twoStations() {
        CardLine line = Check.line("line 99 9 1 1;chip 1 0;stripe 3 0;lot 0;card 0 a;card 0 b;card 0 c");
        int[] first = {0, 1, 1, 1, 2, 2, 2, -1, -1, -1, -1};
        int[] second = {-1, 0, 0, 0, 1, 1, 1, 2, 2, 2, -1};
        int[] ready = {0, 0, 1, 2, 2, 3, 4, 4, 4, 4, 4};
        for (int tick = 0; tick < first.length; tick++) {
            line.run(1);
            Check.due("in station 0 behind tick " + (tick + 1), line.station(0, 2), first[tick]);
            Check.due("in station 1 behind tick " + (tick + 1), line.station(1, 2), second[tick]);
            Check.due("total(4) behind tick " + (tick + 1), line.total(4), ready[tick]);
        }
        for (int card = 0; card < 3; card++) {
            Check.due("when card " + card + " left", line.card(card, 7), 4 + 3 * card);
        }
        Check.due("went on from station 0", line.station(0, 6), 3);
        Check.due("went on from station 1", line.station(1, 6), 3);
        CardLine three = Check.line("line 99 9 1 1;chip 2 0;chip 2 0;chip 2 0;lot 0;card 0 a;card 0 b;card 0 c");
        three.run(7);
        Check.due("all at once: the last one", three.station(2, 2), 1);
        Check.due("all at once: the one before", three.station(1, 2), 2);
        Check.due("all at once: no wait", three.total(4), 0);
    }

    private static void failsAndTries() {
        CardLine line = Check.line("line 99 9 1 2;chip 1 101;lot 0;card 0 a;card 0 b");
        line.run(2);
        Check.due("a card that failed is fed again", line.station(0, 2), 0);
        Check.due("its fails", line.card(0, 5), 1);
        line.run(1);
        Check.due("the second time it is ready", line.card(0, 3), 3);
        line.run(1);
        Check.due("the next card fails", line.card(1, 5), 1);
        line.run(1);
        Check.due("round and round: it is given up", line.card(1, 3), 4);
        Check.due("its fails then", line.card(1, 5), 2);
        Check.due("fails of the station", line.station(0, 5), 3);
        Check.due("went on from the station", line.station(0, 6), 1);
        Check.due("signs", line.station(0, 4), 4);
        Check.due("the station is empty", line.station(0, 2), CardLine.NONE);
        CardLine once = Check.line("line 99 9 1 1;chip 1 1;lot 0;card 0 a;card 0 b");
        once.run(3);
        Check.due("given up at once", once.count(8), 2);
        middleFails();
    }

    private static void middleFails() {
        CardLine line = Check.line("line 99 9 1 2;chip 1 0;wheel 9 1;chip 1 0;lot 0;card 0 a;card 0 b");
        line.run(3);
        Check.due("a fail in the middle makes room", line.station(1, 2), 1);
        Check.due("the one that failed is fed in the same tick", line.station(0, 2), 0);
        Check.due("the first fail", line.total(1), 1);
        Check.due("fails of station 1", line.station(1, 5), 1);
        Check.due("fails of station 0", line.station(0, 5), 0);
    }

    private static void feeding() {
        CardLine blanks = Check.line("line 99 1 1 1;chip 1 0;lot 0;card 0 a;card 0 b");
        Check.due("cards with one blank", blanks.run(50), 1);
        Check.due("blanks then", blanks.count(3), 0);
        blanks.refill(1);
        Check.due("cards with one more", blanks.run(2), 2);
        CardLine none = Check.line("line 99 9 1 1;lot 0;card 0 a");
        Check.due("cards without stations", none.run(50), 0);
        Check.due("fed without stations", none.total(0), 0);
        Check.due("blanks without stations", none.count(3), 9);
        CardLine ranks = Check.line("line 99 9 1 1;chip 1 0;lot 3;lot 7;lot 7;card 0 a;card 2 b;card 1 c;card 1 d");
        ranks.run(9);
        int[] due = {1, 2, 3, 0};
        for (int index = 0; index < due.length; index++) {
            Check.due("by RANK: leftAt(" + index + ")", ranks.leftAt(index), due[index]);
        }
        CardLine remade = Check.line("line 99 9 1 9;chip 1 10;lot 3;lot 7;card 0 a;card 1 b;card 1 c");
        remade.rush(0);
        remade.run(2);
        Check.due("what failed is ahead of a greater RANK", remade.station(0, 2), 0);
        Check.due("it is rushed no more", remade.rush(2), 1);
    }

    private static void tray() {
        CardLine line = Check.line("line 99 99 1 9;chip 1 0;lot 0;card 0 a;card 0 b;card 0 c;card 0 d");
        line.swap(0, 3);
        line.run(4);
        Check.due("in the tray", line.count(6), 1);
        Check.due("how often card 1 was scrapped", line.card(1, 6), 2);
        Check.due("scrapped cards are fed again at once", line.station(0, 2), 1);
        Check.due("went on", line.station(0, 6), 3);
        Check.due("fed", line.total(0), 4);
        Check.due("scraps are no fails", line.card(1, 5), 0);
        line.setTray(3);
        line.run(3);
        for (int card = 0; card < 4; card++) {
            Check.due("when card " + card + " left", line.card(card, 7), 6);
        }
        CardLine lots = Check.line("line 99 99 5 9;chip 1 0;lot 0;lot 0;card 1 a;card 0 b;card 1 c;card 0 d");
        lots.swap(0, 2);
        lots.swap(1, 3);
        lots.run(3);
        Check.due("cards of two lots in the tray", lots.count(6), 2);
        lots.giveUp(3);
        lots.run(1);
        int[] due = {2, 1, 0};
        for (int index = 0; index < due.length; index++) {
            Check.due("from the line, then by lots: leftAt(" + index + ")", lots.leftAt(index), due[index]);
        }
        Check.due("nothing stays in the tray", lots.count(6), 0);
    }

    private static void rest() {
        CardLine line = Check.line("line 99 99 1 1;chip 1 0;rest 0 2 3;lot 0;card 0 a;card 0 b;card 0 c;card 0 d");
        int[] rests = {0, 0, 3, 2, 1, 0, 0, 3, 2, 1, 0, 0};
        int[] left = {0, 1, 2, 2, 2, 2, 3, 4, 4, 4, 4, 4};
        for (int tick = 0; tick < rests.length; tick++) {
            Check.due("left behind tick " + (tick + 1), line.run(1), left[tick]);
            Check.due("ticks to rest behind tick " + (tick + 1), line.station(0, 11), rests[tick]);
        }
        Check.due("ticks of work beside the rests", line.station(0, 12), 4);
        CardLine fails = Check.line("line 99 99 1 9;chip 1 1;rest 0 1 2;lot 0;card 0 a");
        fails.run(2);
        Check.due("the sign of a fail counts", fails.station(0, 11), 2);
        Check.due("a resting station is fed", fails.station(0, 2), 0);
        fails.run(2);
        Check.due("it does not work", fails.station(0, 12), 1);
        fails.run(1);
        Check.due("it works again", fails.station(0, 12), 2);
    }

    private static void restWithReadyCard() {
        CardLine line = Check.line("line 99 99 1 1;chip 1 0;chip 4 0;rest 0 2 9;lot 0;card 0 a;card 0 b;card 0 c");
        line.run(5);
        Check.due("ready and blocked in a rest", line.station(0, 2), 1);
        Check.due("ticks to rest", line.station(0, 11), 7);
        line.run(1);
        Check.due("it goes on in the rest", line.station(1, 2), 1);
        Check.due("the next one is fed in the rest", line.station(0, 2), 2);
        line.run(6);
        Check.due("the rest is over", line.station(0, 11), 0);
        Check.due("no work in it", line.station(0, 3), 1);
        line.run(1);
        Check.due("work behind it", line.station(1, 2), 2);
    }

    private static void stopped() {
        CardLine line = Check.line("line 99 99 1 1;chip 1 0;chip 2 0;rest 1 1 5;lot 0;card 0 a;card 0 b;card 0 c");
        line.stop(0, true);
        line.run(3);
        Check.due("a stopped first station is not fed", line.station(0, 2), CardLine.NONE);
        line.stop(0, false);
        line.run(3);
        Check.due("ready behind a working one", line.station(0, 2), 1);
        line.stop(0, true);
        line.run(1);
        Check.due("a ready card goes on from a stopped station", line.station(1, 2), 1);
        Check.due("and none is fed", line.station(0, 2), CardLine.NONE);
        line.stop(1, true);
        line.run(5);
        Check.due("a stopped station's rest goes on", line.station(1, 11), 0);
        line.run(4);
        Check.due("but it does not work", line.station(1, 3), 2);
        line.stop(1, false);
        line.run(2);
        Check.due("it works then", line.card(1, 3), 3);
    }

    private static void wheels() {
        CardLine line = Check.line("line 99 99 1 1;wheel 3 0;lot 0;card 0 az;card 0 nb");
        line.run(1);
        Check.due("the wheel stands at the last letter", line.station(0, 8), 25);
        Check.due("ticks for 1 step", line.station(0, 3), 3);
        Check.due("steps", line.total(3), 1);
        line.setPace(0, 1);
        Check.due("SPEED holds for cards that enter later", line.station(0, 3), 3);
        line.setPace(0, 3);
        line.run(3);
        Check.due("ticks for 24 steps", line.station(0, 3), 2 + 8);
        Check.due("steps then", line.total(3), 25);
        Check.due("the letter then", line.station(0, 8), 1);
        line.run(9);
        Check.due("not yet", line.card(1, 3), 1);
        line.run(1);
        Check.due("now", line.card(1, 7), 13);
        CardLine failing = Check.line("line 99 99 1 2;wheel 9 10;lot 0;card 0 k");
        failing.run(4);
        Check.due("a card that fails leaves the wheel where it is", failing.station(0, 8), 10);
        Check.due("and needs fewer ticks then", failing.station(0, 3), 1);
    }

    private static void days(CardLine line, int index, int... due) {
        Check.due("day(" + index + ", 0, 0) at " + line.now(), line.day(index, 0, 0), due[0]);
        Check.due("day(" + index + ", 0, 1) at " + line.now(), line.day(index, 0, 1), due[1]);
        Check.due("day(" + index + ", 1, 0) at " + line.now(), line.day(index, 1, 0), due[2]);
        Check.due("day(" + index + ", 1, 1) at " + line.now(), line.day(index, 1, 1), due[3]);
    }

    private static void todays(CardLine line, int... due) {
        Check.due("today(0, 0) at " + line.now(), line.today(0, 0), due[0]);
        Check.due("today(0, 1) at " + line.now(), line.today(0, 1), due[1]);
        Check.due("today(1, 0) at " + line.now(), line.today(1, 0), due[2]);
        Check.due("today(1, 1) at " + line.now(), line.today(1, 1), due[3]);
    }

    private static CardLine dayLine() {
        return Check.line("line 3 99 1 9;chip 1 01;lot 5;lot 1;card 0 a;card 0 b;card 1 c");
    }

    private static void promises19And20() {
        CardLine line = dayLine();
        days(line, 0, -1, -1, -1, -1);
        line.run(2);
        todays(line, 1, 0, 0, 0);
        days(line, 0, -1, -1, -1, -1);
        line.run(1);
        todays(line, 0, 0, 0, 0);
        days(line, 0, 1, 1, 0, 0);
        days(line, 1, -1, -1, -1, -1);
        line.run(2);
        todays(line, 1, 0, 0, 1);
        days(line, 0, 1, 1, 0, 0);
        line.run(1);
        days(line, 0, 1, 0, 1, 1);
        days(line, 1, 1, 1, 0, 0);
        days(line, 2, -1, -1, -1, -1);
        Check.dueIndex("day(0, -1, 0)", () -> line.day(0, -1, 0));
        Check.dueIndex("day(0, 2, 0)", () -> line.day(0, 2, 0));
        Check.dueIndex("day(-1, 2, 2)", () -> line.day(-1, 2, 2));
        Check.dueArgument("day(-1, 0, 0)", () -> line.day(-1, 0, 0));
        Check.dueArgument("day(MIN, 0, 0)", () -> line.day(Integer.MIN_VALUE, 0, 0));
        Check.dueArgument("day(0, 0, -1)", () -> line.day(0, 0, -1));
        Check.dueArgument("day(0, 0, 2)", () -> line.day(0, 0, 2));
        Check.dueArgument("day(50, 0, 2)", () -> line.day(50, 0, 2));
        Check.dueIndex("today(-1, 0)", () -> line.today(-1, 0));
        Check.dueIndex("today(2, 2)", () -> line.today(2, 2));
        Check.dueArgument("today(0, -1)", () -> line.today(0, -1));
        Check.dueArgument("today(0, 2)", () -> line.today(0, 2));
    }

    private static void keptDays() {
        CardLine line = dayLine();
        line.run(30);
        days(line, 9, 1, 1, 0, 0);
        days(line, 8, 1, 0, 1, 1);
        days(line, 10, -1, -1, -1, -1);
        line.run(3);
        days(line, 9, 1, 0, 1, 1);
        days(line, 10, -1, -1, -1, -1);
        line.run(3);
        days(line, 9, 0, 0, 0, 0);
        days(line, Integer.MAX_VALUE, -1, -1, -1, -1);
        CardLine everyTick = Check.line("line 1 99 1 1;chip 1 0;lot 0;lot 0;card 0 a;card 1 b");
        everyTick.run(3);
        days(everyTick, 0, 0, 0, 1, 0);
        days(everyTick, 1, 1, 0, 0, 0);
        days(everyTick, 2, 0, 0, 0, 0);
        todays(everyTick, 0, 0, 0, 0);
    }

    private static void promise21() {
        CardLine line = Check.line("line 99 99 1 9;chip 1 0;wheel 2 10;lot 0;card 0 c;card 0 a;card 0 b");
        line.swap(0, 1);
        int[][] due = {
            {1, 0, 0, 0, 0}, {2, 0, 0, 2, 0}, {2, 0, 0, 2, 1}, {3, 1, 0, 4, 1}, {3, 1, 0, 4, 2}, {4, 1, 0, 6, 2}};
        for (int tick = 0; tick < due.length; tick++) {
            line.run(1);
            for (int what = 0; what <= 4; what++) {
                Check.due("total(" + what + ") behind tick " + (tick + 1), line.total(what), due[tick][what]);
            }
        }
        CardLine scrapped = Check.line("line 99 99 1 9;chip 1 0;lot 0;card 0 a;card 0 b;card 0 c");
        scrapped.swap(0, 2);
        scrapped.run(6);
        Check.due("total(2)", scrapped.total(2), 4);
        scrapped.undo();
        Check.due("total(2) behind undo()", scrapped.total(2), 0);
        Check.dueArgument("total(-1)", () -> line.total(-1));
        Check.dueArgument("total(5)", () -> line.total(5));
        Check.dueArgument("total(MIN)", () -> line.total(Integer.MIN_VALUE));
        Check.dueArgument("total(MAX)", () -> line.total(Integer.MAX_VALUE));
    }

    private static void promises22To24() {
        CardLine line = Check.line("line 99 9 1 9;chip 1 1100;stripe 3 0;lot 0;card 0 a;card 0 b;card 0 c");
        Check.dueDouble("yieldPart() at first", line.yieldPart(), 0.0);
        Check.dueDouble("meanFails() at first", line.meanFails(), 0.0f);
        Check.dueDouble("busyPart(0) at first", line.busyPart(0), 0.0f);
        line.run(7);
        Check.due("fed", line.total(0), 5);
        Check.due("left", line.count(7), 1);
        Check.dueDouble("yieldPart()", line.yieldPart(), 1.0 / 5.0);
        Check.dueDouble("meanFails()", line.meanFails(), 2.0f / 3.0f);
        Check.dueDouble("busyPart(0)", line.busyPart(0), 4.0f / 7.0f);
        Check.dueDouble("busyPart(1)", line.busyPart(1), 3.0f / 7.0f);
        line.run(4);
        Check.dueDouble("yieldPart() then", line.yieldPart(), 2.0 / 7.0);
        Check.dueDouble("busyPart(1) then", line.busyPart(1), 7.0f / 11.0f);
        Check.dueIndex("busyPart(-1)", () -> (int) line.busyPart(-1));
        Check.dueIndex("busyPart(2)", () -> (int) line.busyPart(2));
        CardLine none = new CardLine();
        none.run(5);
        Check.dueDouble("meanFails() without cards", none.meanFails(), 0.0f);
        Check.dueDouble("yieldPart() without cards", none.yieldPart(), 0.0);
    }

    private static void promise25() {
        CardLine line = Check.line("line 99 9 1 1;chip 2 0;wheel 1 0;stripe 4 0;lot 0;card 0 b;card 0 c;card 0 zz");
        Check.due("bottleneck()", line.bottleneck(), 2);
        line.setPace(2, 2);
        Check.due("bottleneck() behind setPace()", line.bottleneck(), 1);
        line.setPace(2, 4);
        line.setPace(0, 4);
        Check.due("bottleneck() of two like ones", line.bottleneck(), 0);
        line.setPace(0, 3);
        line.giveUp(0);
        Check.due("bottleneck() without a card", line.bottleneck(), 2);
        line.giveUp(2);
        line.setPace(0, 2);
        line.setPace(2, 2);
        Check.due("bottleneck() of the wheel", line.bottleneck(), 1);
        line.giveUp(1);
        Check.due("bottleneck() without cards", line.bottleneck(), 0);
        Check.due("bottleneck() without stations", new CardLine().bottleneck(), CardLine.NONE);
        CardLine first = Check.line("line 99 9 1 1;chip 13 0;wheel 1 0;lot 0;card 0 n;card 0 a");
        Check.due("bottleneck() with the first card", first.bottleneck(), 0);
        first.setPace(0, 7);
        Check.due("bottleneck() with its steps", first.bottleneck(), 1);
        CardLine turned = Check.line("line 99 9 1 1;wheel 1 0;chip 9 0;lot 0;card 0 k;card 0 k");
        Check.due("bottleneck() from a", turned.bottleneck(), 0);
        turned.run(1);
        Check.due("bottleneck() from k", turned.bottleneck(), 1);
    }
}
