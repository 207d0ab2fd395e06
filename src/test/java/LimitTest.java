/**
 * The boundaries of the settings while ticks pass: TRIES, TRAY, BLANKS, rests, the 2000 ticks of
 * predictions, and the order in which cards are fed where several could be.
 */
public final class LimitTest {
    public static void main(String[] args) {
        for (int tries = 1; tries <= 9; tries++) {
            tries(tries);
        }
        for (int places = 1; places <= 20; places++) {
            tray(places);
        }
        trayMadeSmaller();
        blanks();
        for (int after : new int[] {1, 2, 3, 50, 98, 99}) {
            for (int ticks : new int[] {1, 2, 3, 98, 99}) {
                rest(after, ticks);
            }
        }
        afterOrMore();
        restGoesOn();
        whoIsFed();
        remadeOfBothKinds();
        rushedAheadOfAll();
        lastTick();
        lastTickOfBestRank();
        lastTickOfLots();
        runToLeaveAtItsLimit();
        nothingAtAll();
        triesOfThoseThatWait();
        failsAtEachStation();
        goingOnIntoAnyStation();
        bottleneckOfAllStates();
        actionsThatChangeNothing();
        snapshotsBehindLoad();
        allThatWait();
        stationsAsFarAsTheyGo();
        Check.end("LimitTest");
    }

    private static CardLine cards(String head, int cards) {
        StringBuilder text = new StringBuilder(head);
        for (int card = 0; card < cards; card++) {
            text.append(";card0a");
        }
        return Check.line(text.toString());
    }

    /** A card is given up with the fail of that number, and with none before. */
    private static void tries(int tries) {
        CardLine line = cards("line 99 999 1 " + tries + ";chip 1 1;lot 0", 2);
        line.run(1);
        for (int fails = 1; fails <= tries; fails++) {
            Check.due("state ahead of fail " + fails + " of " + tries, line.card(0, 3), 1);
            line.run(1);
            Check.due("fails", line.card(0, 5), fails);
            Check.due("given up behind fail " + fails + " of " + tries, line.count(8), fails == tries ? 1 : 0);
        }
        Check.due("the state in the end", line.card(0, 3), 4);
        Check.due("the lot's cards that were given up", line.lot(0, 3), 1);
        Check.due("the next card", line.lot(0, 6), 1);
        CardLine ready = cards("line 99 999 1 " + tries + ";chip 1 " + "1".repeat(tries - 1) + "0;lot 0", 1);
        ready.run(tries + 1);
        Check.due("a card that fails once less leaves", ready.card(0, 3), 3);
    }

    /** As many cards as there are places go into the tray, the next one is scrapped. */
    private static void tray(int places) {
        CardLine line = cards("line 99 999 " + places + " 1;chip 1 0;lot 0", places + 2);
        line.swap(0, places + 1);
        line.run(1);
        for (int card = 1; card <= places; card++) {
            line.run(1);
            Check.due("in the tray of " + places, line.count(6), card);
            Check.due("scrapped", line.total(2), 0);
        }
        line.run(1);
        Check.due("in the full tray of " + places, line.count(6), places);
        Check.due("scrapped then", line.total(2), 1);
        Check.due("how often card " + places + " was scrapped", line.card(places, 6), 1);
        Check.due("how often cards of the lot were scrapped", line.lot(0, 5), 1);
        Check.due("it is fed again at once, ahead of a new card", line.card(places, 3), 1);
        Check.due("the last one waits", line.card(places + 1, 3), 0);
        line.rush(places + 1);
        line.run(2);
        Check.due("behind the first one by places leave those that come next", line.count(7), places);
        Check.due("card 0 is the last one by places", line.trayAt(0), 0);
        line.run(1);
        Check.due("behind the last one but card 0 all leave", line.count(7), places + 2);
        Check.due("the tray then", line.count(6), 0);
        Check.due("who left first", line.leftAt(0), places + 1);
        Check.due("who left then", line.leftAt(1), 1);
        Check.due("who left last", line.leftAt(places + 1), 0);
    }

    private static void trayMadeSmaller() {
        CardLine line = cards("line 99 999 20 1;chip 1 0;lot 0", 12);
        line.swap(0, 11);
        line.run(9);
        Check.due("in the tray", line.count(6), 8);
        for (int places = 9; places >= 7; places--) {
            line.setTray(places);
            Check.due("in the tray with TRAY " + places, line.count(6), 8);
            line.run(1);
            Check.due("behind a tick with TRAY " + places, line.count(6), places == 9 ? 9 : 8);
            Check.due("scrapped with TRAY " + places, line.total(2), places == 9 ? 0 : 1);
            line.undo();
        }
    }

    private static void blanks() {
        for (int blanks = 0; blanks <= 4; blanks++) {
            CardLine line = cards("line 99 " + blanks + " 1 1;chip 1 0;lot 0", 3);
            line.run(9);
            Check.due("fed with BLANKS " + blanks, line.total(0), Math.min(blanks, 3));
            Check.due("blanks then", line.count(3), Math.max(blanks - 3, 0));
            Check.due("nextFed() then", line.nextFed(), blanks >= 3 ? CardLine.NONE : blanks);
            Check.due("blanks from refill(1)", line.refill(1), Math.max(blanks - 3, 0) + 1);
            Check.due("left then", line.run(2), Math.min(blanks + 1, 3));
        }
    }

    /** A sign each tick: the rest begins with the sign of that number and takes its ticks. */
    private static void rest(int after, int ticks) {
        CardLine line = cards("line 99 999 1 9;chip 1 1;rest 0 " + after + " " + ticks + ";lot 0", 30);
        String of = " with " + after + " and " + ticks;
        Check.due("restIn(0)" + of, line.restIn(0), after + 1);
        int times = after > 50 ? 1 : 2;
        line.run(after);
        Check.due("signs ahead of the rest" + of, line.station(0, 4), after - 1);
        Check.due("ticks to rest ahead of it" + of, line.station(0, 11), 0);
        for (int time = 1; time <= times; time++) {
            line.run(1);
            int signs = time * after;
            Check.due("signs when the rest begins" + of, line.station(0, 4), signs);
            Check.due("ticks to rest then" + of, line.station(0, 11), ticks);
            for (int tick = 1; tick <= ticks; tick++) {
                Check.due("restIn(0) in the rest" + of, line.restIn(0), 0);
                line.run(1);
                Check.due("ticks to rest behind " + tick + of, line.station(0, 11), ticks - tick);
                Check.due("signs in the rest" + of, line.station(0, 4), signs);
            }
            Check.due("restIn(0) behind the rest" + of, line.restIn(0), after);
            if (after > 1) {
                line.run(after - 1);
            }
        }
        Check.due("ticks of work" + of, line.station(0, 12), (times + 1) * after - 1);
    }

    private static void afterOrMore() {
        for (int signs = 0; signs <= 7; signs++) {
            for (int after = 1; after <= 7; after++) {
                CardLine line = cards("line 99 999 1 9;chip 1 1;lot 0", 30);
                line.run(1 + signs);
                line.setRest(0, after, 5);
                Check.due("no rest begins but with a sign", line.station(0, 11), 0);
                int more = Math.max(1, after - signs);
                Check.due("restIn(0) behind " + signs + " signs with " + after, line.restIn(0), more);
                line.run(more);
                Check.due("ticks to rest behind " + (signs + more) + " signs with " + after, line.station(0, 11), 5);
                Check.due("the next rest", restsAgain(line), after);
            }
        }
    }

    /** How many signs are used from the end of a rest to the beginning of the next one. */
    private static int restsAgain(CardLine line) {
        line.run(line.station(0, 11));
        int before = line.station(0, 4);
        line.run(line.restIn(0));
        return line.station(0, 4) - before;
    }

    private static void restGoesOn() {
        CardLine line = cards("line 99 999 1 9;chip 1 1;rest 0 2 4;lot 0", 30);
        line.run(4);
        Check.due("in the rest", line.station(0, 11), 3);
        line.setRest(0, 1, 9);
        Check.due("setRest() in it", line.station(0, 11), 3);
        line.stop(0, true);
        line.run(2);
        Check.due("stopped in it", line.station(0, 11), 1);
        line.setRest(0, 0, 0);
        line.stop(0, false);
        line.run(1);
        Check.due("its last tick", line.station(0, 11), 0);
        Check.due("no work in it", line.station(0, 12), 2);
        line.run(3);
        Check.due("signs without a rest", line.station(0, 4), 5);
        line.setRest(0, 3, 1);
        line.run(1);
        Check.due("signs since the rest began are 4", line.station(0, 11), 1);
        line.setRest(0, 1, 2);
        line.run(2);
        Check.due("with the new numbers", line.station(0, 11), 2);
    }

    private static void whoIsFed() {
        for (int first = 0; first <= 9; first++) {
            for (int second = 0; second <= 9; second++) {
                CardLine line = Check.line("line 9 9 1 1;chip 1 0;lot " + first + ";lot " + second + ";card 0 a;card 1 b;card 0 c");
                int due = second > first ? 1 : 0;
                Check.due("nextFed() with RANK " + first + " and " + second, line.nextFed(), due);
                line.run(1);
                Check.due("who is fed", line.station(0, 2), due);
                Check.due("nextFed() then", line.nextFed(), due == 1 ? 0 : second >= first ? second > first ? 0 : 1 : 2);
            }
        }
    }

    private static void remadeOfBothKinds() {
        CardLine line = Check.line("line 99 99 1 9;chip 1 0001;lot 0;lot 9;card 0 a;card 0 b;card 0 c;card 0 d;card 1 e;card 1 f");
        line.swap(0, 3);
        for (int card = 0; card <= 2; card++) {
            line.rush(card);
        }
        line.run(3);
        line.stop(0, true);
        line.run(1);
        Check.due("in the tray", line.trayAt(0), 0);
        Check.due("card 1 was scrapped", line.card(1, 6), 1);
        Check.due("a scrapped card is ahead of a greater RANK", line.nextFed(), 1);
        Check.due("card 2 is on the line", line.card(2, 3), 1);
        CardLine both = bothRemade();
        Check.due("card 1 failed", both.card(1, 5), 1);
        Check.due("card 2 was scrapped", both.card(2, 6), 1);
        Check.due("of both the lower number", both.nextFed(), 1);
        both.giveUp(1);
        Check.due("then the scrapped one", both.nextFed(), 2);
        both.giveUp(2);
        Check.due("then the greatest RANK", both.nextFed(), 4);
    }

    /** Card 1 failed and card 2 was scrapped, and both wait. */
    private static CardLine bothRemade() {
        CardLine line = Check.line("line 99 3 1 9;chip 1 00;chip 1 001;lot 0;lot 9;"
            + "card 0 a;card 0 b;card 0 c;card 0 d;card 1 e;card 1 f");
        line.swap(0, 3);
        for (int card : new int[] {0, 2, 1}) {
            line.rush(card);
            line.run(1);
        }
        line.run(2);
        Check.due("on the line", line.count(5), 0);
        return line;
    }

    private static void rushedAheadOfAll() {
        CardLine line = Check.line("line 99 99 1 9;chip 1 1;lot 9;lot 0;card 0 a;card 0 b;card 1 c;card 1 d");
        line.rush(3);
        line.run(1);
        Check.due("the rushed one is fed", line.station(0, 2), 3);
        line.rush(2);
        line.run(1);
        Check.due("a rushed one is ahead of one that failed", line.station(0, 2), 2);
        Check.due("rushed no more: rush(0)", line.rush(0), 1);
        line.giveUp(0);
        Check.due("given up, rushed no more: rush(1)", line.rush(1), 1);
        Check.due("rush(3) of one that failed", line.rush(3), 2);
        Check.due("the lower number", line.nextFed(), 1);
    }

    /** What happens with tick 2000 is predicted, what happens with tick 2001 is not. */
    private static void lastTick() {
        CardLine line = many("chip 99 0");
        int all = 1 + 21 * 99;
        Check.due("leftIn(2000)", line.leftIn(2000), 20);
        line.run(all - 2001);
        for (int ticks = 2001; ticks >= 1999; ticks--) {
            int due = ticks > 2000 ? CardLine.NONE : ticks;
            Check.due("leavesIn() at " + ticks, line.leavesIn(20), due);
            Check.due("lotIn() at " + ticks, line.lotIn(0), due);
            Check.due("allIn() at " + ticks, line.allIn(), due);
            Check.due("leftIn(2000) at " + ticks, line.leftIn(2000), ticks > 2000 ? 20 : 21);
            Check.due("leftIn(1999) at " + ticks, line.leftIn(1999), ticks > 1999 ? 20 : 21);
            Check.due("bestTray() at " + ticks, line.bestTray(), ticks > 2000 ? CardLine.NONE : 1);
            Check.due("lotBy(0) at " + ticks, line.lotBy(0), 0);
            line.run(1);
        }
        CardLine fails = many("chip 99 000000000001;rest 0 1 83");
        int begins = 1 + 12 * 99 + 11 * 83;
        fails.run(begins - 2001);
        Check.due("failIn() at 2001", fails.failIn(0), CardLine.NONE);
        fails.run(1);
        Check.due("failIn() at 2000", fails.failIn(0), 2000);
        fails.run(1999);
        Check.due("failIn() at 1", fails.failIn(0), 1);
        Check.due("fails", fails.total(1), 0);
        fails.run(1);
        Check.due("fails then", fails.total(1), 1);
        CardLine rests = many("chip 99 0;rest 0 21 7");
        rests.run(all - 2001);
        Check.due("restIn() at 2001", rests.restIn(0), CardLine.NONE);
        rests.run(1);
        Check.due("restIn() at 2000", rests.restIn(0), 2000);
        rests.run(1999);
        Check.due("restIn() at 1", rests.restIn(0), 1);
        rests.run(1);
        Check.due("restIn() at 0", rests.restIn(0), 0);
    }

    private static CardLine many(String stations) {
        return cards("line 99 99 1 1;" + stations + ";lot 0", 21);
    }

    private static void lastTickOfBestRank() {
        CardLine line = many("chip 99 0");
        line.run(79);
        Check.due("lotIn(0)", line.lotIn(0), CardLine.NONE);
        Check.due("bestRank(0) at 2001", line.bestRank(0), CardLine.NONE);
        line.run(1);
        Check.due("bestRank(0) at 2000", line.bestRank(0), 0);
        CardLine other = Check.line("line 99 99 1 1;chip 99 0;lot 4;lot 0" + ";card0a".repeat(20) + ";card 1 z");
        other.run(79);
        Check.due("bestRank(1) ahead of RANK 4", other.bestRank(1), 5);
        other.setRank(0, 9);
        Check.due("bestRank(1) behind RANK 9 at 2001", other.bestRank(1), CardLine.NONE);
        other.run(1);
        Check.due("lotIn(1)", other.lotIn(1), 2000);
        Check.due("bestRank(1) behind RANK 9 at 2000", other.bestRank(1), 0);
    }

    private static void lastTickOfLots() {
        CardLine line = Check.line("line 99 99 1 1;chip 99 0;lot 0;lot 0;lot 0;lot 0;card 3 a;card 2 b"
            + ";card 3 c".repeat(18) + ";card 1 d;card 0 e");
        line.run(79);
        lotOrder(line, "at 2001", 2, 0, 1, 3);
        line.run(1);
        lotOrder(line, "at 2000", 2, 1, 0, 3);
        Check.due("lotIn(3) of cards that left at last", line.lotIn(3), 2000 - 99);
    }

    private static void lotOrder(CardLine line, String when, int... roughly) {
        int[] ticks = new int[4];
        for (int lot = 0; lot < 4; lot++) {
            ticks[lot] = line.lotIn(lot) == CardLine.NONE ? 9999 : line.lotIn(lot);
        }
        for (int place = 1; place < 4; place++) {
            int before = line.lotBy(place - 1);
            int lot = line.lotBy(place);
            Check.due("lotBy(" + place + ") " + when + " is not too early",
                ticks[before] < ticks[lot] || ticks[before] == ticks[lot] && before < lot ? 1 : 0, 1);
        }
        Check.due("lotBy(0) " + when, line.lotBy(0), roughly[0]);
        Check.due("lotBy(4) " + when, line.lotBy(4), CardLine.NONE);
        Check.due("lotBy(-1) " + when, line.lotBy(-1), CardLine.NONE);
    }

    private static void runToLeaveAtItsLimit() {
        for (int most = 1; most <= 9; most++) {
            CardLine line = Check.line("line 99 99 1 1;chip 5 0;lot 0;card 0 a;card 0 b");
            Check.due("runToLeave(" + most + ")", line.runToLeave(most), most < 6 ? CardLine.NONE : 6);
            Check.due("now() then", line.now(), Math.min(most, 6));
            Check.due("left then", line.count(7), most < 6 ? 0 : 1);
            Check.due("it counts as an action", line.count(9), 1);
            line.undo();
            Check.due("now() behind undo()", line.now(), 0);
        }
        CardLine slow = many("chip 99 0");
        slow.setRest(0, 1, 99);
        slow.run(100);
        for (int wait = 0; wait <= 2; wait++) {
            slow.stop(0, wait == 0);
            Check.due("runToLeave(2000)", slow.runToLeave(2000), wait == 0 ? CardLine.NONE : wait == 1 ? 99 : 198);
        }
        Check.due("now() in the end", slow.now(), 100 + 2000 + 99 + 198);
    }

    private static void nothingAtAll() {
        CardLine none = new CardLine();
        Check.due("run(2000) of nothing", none.run(2000), 0);
        Check.due("runToLeave(2000) of nothing", none.runToLeave(2000), CardLine.NONE);
        Check.due("now()", none.now(), 4000);
        Check.due("leftIn(2000) of nothing", none.leftIn(2000), 0);
        Check.due("blanksIn(2000) of nothing", none.blanksIn(2000), 0);
        Check.due("allIn() of nothing", none.allIn(), 0);
        Check.due("bestTray() of nothing", none.bestTray(), 1);
        CardLine lots = Check.line("line 99 9 1 1;chip 1 0;lot 3;lot 5");
        lots.run(5);
        Check.due("lotIn(1) without cards", lots.lotIn(1), 0);
        Check.due("lotBy(0) without cards", lots.lotBy(0), 0);
        Check.due("lotBy(1) without cards", lots.lotBy(1), 1);
        Check.due("bestRank(1) without cards", lots.bestRank(1), 0);
        Check.due("lot(1, 6) without cards", lots.lot(1, 6), CardLine.NONE);
        Check.due("bottleneck() without cards", lots.bottleneck(), 0);
        Check.due("failIn(0) without cards", lots.failIn(0), CardLine.NONE);
        Check.due("restIn(0) without cards", lots.restIn(0), CardLine.NONE);
        Check.dueDouble("busyPart(0) without cards", lots.busyPart(0), 0.0f);
        Check.dueDouble("meanFails() without cards", lots.meanFails(), 0.0f);
        Check.dueDouble("yieldPart() without cards", lots.yieldPart(), 0.0);
        CardLine stations = Check.line("line 99 9 1 1;lot 3;card 0 a");
        stations.run(2000);
        Check.due("fed without stations", stations.total(0), 0);
        Check.due("blanks without stations", stations.count(3), 9);
        Check.due("leavesIn(0) without stations", stations.leavesIn(0), CardLine.NONE);
        Check.due("bottleneck() without stations", stations.bottleneck(), CardLine.NONE);
        Check.due("bestTray() without stations", stations.bestTray(), CardLine.NONE);
        Check.due("bestRank(0) without stations", stations.bestRank(0), CardLine.NONE);
        CardLine fed = Check.line("line 99 9 1 1;chip 9 0;lot 3;card 0 a");
        fed.run(1);
        Check.dueDouble("yieldPart() of one on the line", fed.yieldPart(), 0.0);
    }

    /** With six stations a card takes a tick for each and goes on in the tick in which it is ready. */
    private static void stationsAsFarAsTheyGo() {
        for (int count = 1; count <= 6; count++) {
            CardLine line = cards("line 99 99 1 1" + ";chip 1 0".repeat(count) + ";lot 0", 8);
            Check.due("leavesIn(0) with " + count, line.leavesIn(0), count + 1);
            Check.due("allIn() with " + count, line.allIn(), count + 8);
            line.run(count);
            for (int station = 0; station < count; station++) {
                Check.due("the card in station " + station, line.station(station, 2), count - 1 - station);
                Check.due("where that card is", line.card(count - 1 - station, 4), station);
                Check.due("what it needs", line.station(station, 3), 1);
            }
            Check.due("on the line", line.count(5), count);
            Check.due("left", line.run(1), 1);
            line.stop(count - 1, true);
            line.run(9);
            Check.due("on the line behind a stopped station", line.count(5), count);
            Check.due("none leaves", line.count(7), 1);
        }
    }

    /** TRIES holds for cards that fail from then on: those that wait stay, whatever they failed. */
    private static void triesOfThoseThatWait() {
        for (int tries = 1; tries <= 4; tries++) {
            CardLine line = cards("line 99 3 1 9;chip 1 1;lot 0", 2);
            line.run(9);
            Check.due("fails of the card that waits", line.card(0, 5), 3);
            Check.due("setTries(" + tries + ")", line.setTries(tries), 9);
            Check.due("its state then", line.card(0, 3), 0);
            line.run(5);
            Check.due("its state without a blank", line.card(0, 3), 0);
            line.refill(1);
            line.run(2);
            Check.due("its state behind another fail with TRIES " + tries, line.card(0, 3), 4);
        }
    }

    /** Wherever and in whatever kind of station it fails, it is given up with the last try. */
    private static void failsAtEachStation() {
        String[] kinds = {"chip", "stripe", "print", "wheel"};
        for (int kind = 0; kind < kinds.length; kind++) {
            for (int place = 0; place < 3; place++) {
                StringBuilder text = new StringBuilder("line 99 99 1 2");
                for (int station = 0; station < 3; station++) {
                    text.append(";").append(station == place ? kinds[kind] + " 1 1" : "chip 1 0");
                }
                CardLine line = cards(text + ";lot 0", 1);
                int once = place + 2;
                String of = " at " + kinds[kind] + " as station " + place;
                Check.due("failIn()" + of, line.failIn(place), once);
                line.run(once);
                Check.due("fails" + of, line.card(0, 5), 1);
                Check.due("fed again" + of, line.station(0, 2), 0);
                line.run(once - 1);
                Check.due("given up" + of, line.card(0, 3), 4);
                Check.due("in no station" + of, line.card(0, 4), CardLine.NONE);
                Check.due("fails of the station" + of, line.station(place, 5), 2);
                Check.due("none went on" + of, line.station(place, 6), 0);
                Check.due("on the line" + of, line.count(5), 0);
            }
        }
    }

    /** A ready card goes on into an empty station, also if that is stopped or rests, and needs its ticks there. */
    private static void goingOnIntoAnyStation() {
        CardLine line = cards("line 99 99 1 1;chip 1 0;chip 1 0;chip 1 0;rest 2 1 9;lot 0", 4);
        line.stop(1, true);
        line.run(2);
        Check.due("into a stopped station", line.station(1, 2), 0);
        Check.due("its ticks there", line.station(1, 3), 1);
        line.run(3);
        Check.due("it stays there", line.station(1, 3), 1);
        Check.due("the next one is ready behind it", line.station(0, 3), 0);
        Check.due("ticks with a ready card", line.total(4), 3);
        line.stop(1, false);
        line.run(2);
        Check.due("the first one has left", line.count(7), 1);
        Check.due("the last station rests", line.station(2, 11), 9);
        Check.due("into a resting station", line.station(2, 2), 1);
        Check.due("its ticks there", line.station(2, 3), 1);
        line.run(9);
        Check.due("the rest is over", line.station(2, 11), 0);
        Check.due("its ticks behind it", line.station(2, 3), 1);
        Check.due("it leaves then", line.run(1), 2);
    }

    /** Cards count that wait, are on the line or in the tray; those that left or were given up do not. */
    private static void bottleneckOfAllStates() {
        String[] letters = {"a", "b", "c", "d", "e"};
        for (int state = 0; state <= 4; state++) {
            CardLine line = Check.line("line 99 2 1 1;chip 1 0;wheel 1 0;lot 0;card 0 " + "n" + ";card 0 " + letters[state]);
            if (state == 1) {
                line.rush(1);
                line.run(1);
            } else if (state == 2) {
                line.rush(1);
                line.stop(0, false);
                line.run(2 + line.ticksFor(1, 1));
            } else if (state == 3) {
                line.giveUp(0);
                line.run(9);
            } else if (state == 4) {
                line.giveUp(1);
            }
            Check.due("the card's state", line.card(1, 3), state);
            int[] ticks = new int[2];
            for (int station = 0; station < 2; station++) {
                for (int card = 0; card < 2; card++) {
                    ticks[station] += line.card(card, 3) < 3 ? line.ticksFor(station, card) : 0;
                }
            }
            turnsOver(line, ticks[1], state);
        }
    }

    /** With TIME just below, at and above the wheel's ticks the bottleneck is the wheel, the first one and the first one. */
    private static void turnsOver(CardLine line, int wheelTicks, int state) {
        int counted = (line.card(0, 3) < 3 ? 1 : 0) + (line.card(1, 3) < 3 ? 1 : 0);
        for (int time = 1; time <= 99; time++) {
            line.setPace(0, time);
            Check.due("bottleneck() with TIME " + time + " and a card of state " + state, line.bottleneck(),
                counted * time >= wheelTicks ? 0 : 1);
        }
    }

    /** An action counts also if it changes nothing, and is taken back as any other. */
    private static void actionsThatChangeNothing() {
        CardLine line = Check.line("line 99 9 3 4;chip 5 0;wheel 6 0;rest 1 7 8;lot 2;card 0 a");
        line.rush(0);
        Check.due("the first action", line.count(9), 1);
        line.rush(0);
        Check.due("rush() of a rushed card", line.count(9), 2);
        line.setRank(0, 2);
        Check.due("setRank() to what it is", line.count(9), 3);
        line.setPace(1, 6);
        Check.due("setPace() to what it is", line.count(9), 4);
        line.stop(1, false);
        Check.due("stop() of what is not stopped", line.count(9), 5);
        line.setRest(1, 7, 8);
        Check.due("setRest() to what it is", line.count(9), 6);
        line.setTries(4);
        Check.due("setTries() to what it is", line.count(9), 7);
        line.setTray(3);
        Check.due("setTray() to what it is", line.count(9), 8);
        for (int left = 7; left >= 0; left--) {
            Check.due("undo()", line.undo(), left);
        }
        line.setRest(0, 0, 5);
        line.setRest(0, 0, 6);
        Check.due("setRest() of none twice", line.count(9), 2);
        line.giveUp(0);
        Check.due("runToLeave() in vain", line.runToLeave(1), CardLine.NONE);
        Check.due("it counts", line.count(9), 4);
        line.undo();
        Check.due("its tick is taken back", line.now(), 0);
    }

    private static void snapshotsBehindLoad() {
        CardLine line = new CardLine();
        for (int slot = 0; slot <= 1; slot++) {
            Check.load(line, "line " + (7 + slot) + " 1 1 1;chip 1 0");
            line.run(3 + slot);
            line.saveSnapshot(slot);
        }
        for (int time = 0; time < 2; time++) {
            Check.load(line, "line 5 5 5 5");
            Check.load(line, "line 5 5 5 x");
            for (int slot = 0; slot <= 1; slot++) {
                Check.due("restoreSnapshot(" + slot + ") behind load()", line.restoreSnapshot(slot), 3 + slot);
                Check.due("its DAY", line.setting(0), 7 + slot);
                Check.due("its stations", line.count(0), 1);
            }
        }
    }

    /** All 30 cards are rushed, then given up one by one; the lot is finished with the last one. */
    private static void allThatWait() {
        CardLine line = cards("line 99 99 1 1;chip 1 0;lot 0", 30);
        for (int card = 29; card >= 0; card--) {
            Check.due("rush(" + card + ")", line.rush(card), 30 - card);
            Check.due("nextFed() then", line.nextFed(), card);
        }
        for (int card = 0; card < 30; card++) {
            Check.due("the next card of the lot", line.lot(0, 6), card);
            Check.due("lotIn(0) ahead of giveUp(" + card + ")", line.lotIn(0), 31 - card);
            Check.due("giveUp(" + card + ")", line.giveUp(card), 29 - card);
            Check.due("given up", line.lot(0, 3), card + 1);
            Check.due("given up again", line.giveUp(card), CardLine.WRONG_STATE);
        }
        Check.due("the next card in the end", line.lot(0, 6), CardLine.NONE);
        Check.due("nextFed() in the end", line.nextFed(), CardLine.NONE);
        Check.due("lotIn(0) in the end", line.lotIn(0), 0);
        Check.due("allIn() in the end", line.allIn(), 0);
        Check.due("bestRank(0) in the end", line.bestRank(0), 0);
        Check.due("bestTray() in the end", line.bestTray(), 1);
        Check.due("cards that waited", line.undo(), 7);
        Check.due("the last one waits again", line.nextFed(), 29);
        Check.due("rush(29) of the only rushed one", line.rush(29), 1);
    }
}
