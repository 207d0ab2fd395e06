/** Promises 1 to 5 and the texts of section 1: new objects, the buffer, descriptions and their errors. */
public final class DescriptionTest {
    private static final String HEAD = "line 5 9 1 1;";

    public static void main(String[] args) {
        promise1();
        promise2();
        promise3();
        promise3BeginsAnew();
        promise3BehindAnother();
        numbersAndSpaces();
        placesOfError1();
        placesOfError2();
        placesOfError3();
        placesOfError4();
        promises4And5();
        texts();
        Check.end("DescriptionTest");
    }

    private static void refuses(String text, int place, int kind, int statement) {
        CardLine line = new CardLine();
        Check.due("load() of '" + text + "'", Check.load(line, text), -100 - place);
        Check.due("loadError() of '" + text + "'", line.loadError(), kind);
        Check.due("loadStatement() of '" + text + "'", line.loadStatement(), statement);
        Check.due("DAY behind '" + text + "'", line.setting(0), 480);
        Check.due("stations behind '" + text + "'", line.count(0), 0);
        Check.due("lots behind '" + text + "'", line.count(1), 0);
        Check.due("the buffer behind '" + text + "'", line.append(0), 0);
    }

    private static void takes(String text, int stations) {
        CardLine line = new CardLine();
        Check.due("load() of '" + text + "'", Check.load(line, text), stations);
        Check.due("loadError() of '" + text + "'", line.loadError(), 0);
        Check.due("loadStatement() of '" + text + "'", line.loadStatement(), CardLine.NONE);
        Check.due("the buffer behind '" + text + "'", line.append(0), 0);
    }

    private static void promise1() {
        CardLine line = new CardLine();
        int[] settings = {480, 1, 1, 0, 0};
        for (int what = 0; what < settings.length; what++) {
            Check.due("new: setting(" + what + ")", line.setting(what), settings[what]);
        }
        for (int what = 0; what <= 9; what++) {
            Check.due("new: count(" + what + ")", line.count(what), 0);
        }
        for (int what = 0; what <= 4; what++) {
            Check.due("new: total(" + what + ")", line.total(what), 0);
        }
        Check.due("new: now()", line.now(), 0);
        Check.due("new: loadError()", line.loadError(), 0);
        Check.due("new: loadStatement()", line.loadStatement(), CardLine.NONE);
        Check.due("new: append(0)", line.append(0), 0);
        Check.due("new: outputByte(0)", line.outputByte(0), CardLine.NONE);
        Check.due("new: restoreSnapshot(0)", line.restoreSnapshot(0), CardLine.NONE);
        Check.due("new: restoreSnapshot(1)", line.restoreSnapshot(1), CardLine.NONE);
        Check.due("new: undo()", line.undo(), CardLine.NONE);
        Check.due("new: nextFed()", line.nextFed(), CardLine.NONE);
        Check.due("new: bottleneck()", line.bottleneck(), CardLine.NONE);
        Check.due("new: lotBy(0)", line.lotBy(0), CardLine.NONE);
        Check.due("new: allIn()", line.allIn(), 0);
        Check.due("new: bestTray()", line.bestTray(), 1);
        Check.dueIndex("new: station(0, 0)", () -> line.station(0, 0));
        Check.dueIndex("new: card(0, 0)", () -> line.card(0, 0));
        Check.dueIndex("new: lot(0, 0)", () -> line.lot(0, 0));
        Check.dueIndex("new: order(0)", () -> line.order(0));
    }

    private static void promise2() {
        CardLine line = new CardLine();
        Check.due("append of two bytes with zeros between", line.append(0x6100_0000_0062_0000L), 2);
        Check.due("append(0)", line.append(0), 2);
        Check.due("append(-1)", line.append(-1), 10);
        Check.due("load of ab", line.load(), -100);
        Check.due("append behind load()", line.append('x'), 1);
        CardLine order = Check.line(HEAD + "lot 0");
        order.append(0x6162_6364_0000_6566L);
        Check.due("the order of the bytes", order.order(0), 0);
        for (int place = 0; place < 6; place++) {
            Check.due("letter " + place, order.letter(0, place), place);
        }
        promise2Full();
    }

    private static void promise2Full() {
        CardLine line = new CardLine();
        for (int number = 1; number <= 74; number++) {
            Check.due("append no. " + number, line.append(0x2020202020202020L), 8 * number);
        }
        Check.due("append to 599", line.append(0x0020202020202020L), 599);
        Check.due("append of 2 to 599", line.append(0x2020), CardLine.FULL);
        Check.due("append of 8 to 599", line.append(-1), CardLine.FULL);
        Check.due("append(0) to 599", line.append(0), 599);
        Check.due("append to 600", line.append(0x2000), 600);
        Check.due("append(0) to 600", line.append(0), 600);
        Check.due("append to 601", line.append(1L << 56), CardLine.FULL);
        Check.due("load of 600 spaces", line.load(), -700);
        Check.due("append then", line.append(1), 1);
    }

    private static void promise3() {
        takes("line 480 0 1 1", 0);
        takes("line 1 0 1 1", 0);
        takes("line 2000 999 20 9", 0);
        takes("line 5 1 1 1;chip 99 0;rest 0 99 99;stripe 1 1;print 7 010101010101;wheel 9 1;wheel 1 0;chip 1 0", 6);
        CardLine line = Check.line("line 7 8 9 6;lot 9;wheel 3 01;rest 0 4 5;lot 0;print 12 1;card 1 ba;rest 0 6 99"
            + ";card 0 z;card 1 q;stripe 1 0");
        int[] settings = {7, 9, 6, 8, 0};
        for (int what = 0; what < settings.length; what++) {
            Check.due("setting(" + what + ")", line.setting(what), settings[what]);
        }
        int[] counts = {3, 2, 3, 8, 3, 0, 0, 0, 0, 0};
        for (int what = 0; what < counts.length; what++) {
            Check.due("count(" + what + ")", line.count(what), counts[what]);
        }
        int[][] stations = {
            {3, 3, -1, 0, 0, 0, 0, 0, 0, 6, 99, 0, 0},
            {2, 12, -1, 0, 0, 0, 0, 0, -1, 0, 0, 0, 0},
            {1, 1, -1, 0, 0, 0, 0, 0, -1, 0, 0, 0, 0}};
        for (int station = 0; station < stations.length; station++) {
            for (int what = 0; what < stations[station].length; what++) {
                Check.due("station(" + station + ", " + what + ")", line.station(station, what), stations[station][what]);
            }
        }
        int[][] cards = {{1, 0, 2, 0, -1, 0, 0, -1}, {0, 0, 1, 0, -1, 0, 0, -1}, {1, 1, 1, 0, -1, 0, 0, -1}};
        for (int card = 0; card < cards.length; card++) {
            for (int what = 0; what < cards[card].length; what++) {
                Check.due("card(" + card + ", " + what + ")", line.card(card, what), cards[card][what]);
            }
        }
    }

    private static void promise3BeginsAnew() {
        CardLine line = Check.line("line 2 9 3 2;chip 1 01;lot 4;card 0 abc;card 0 d");
        line.setTries(5);
        line.refill(3);
        line.setRest(0, 5, 6);
        line.stop(0, false);
        line.saveSnapshot(1);
        line.run(9);
        line.writeCard(0);
        Check.due("load() with an error", Check.load(line, "line 2 9 3 2;chop"), -113);
        Check.due("the time then", line.now(), 9);
        Check.due("actions then", line.count(9), 5);
        Check.due("the output then", line.outputByte(2), 'c');
        Check.due("load() anew", Check.load(line, "line 3 7 2 1;print 2 0;lot 5;card 0 x"), 1);
        int[] counts = {1, 1, 1, 7, 1, 0, 0, 0, 0, 0};
        for (int what = 0; what < counts.length; what++) {
            Check.due("anew: count(" + what + ")", line.count(what), counts[what]);
        }
        Check.due("anew: now()", line.now(), 0);
        Check.due("anew: undo()", line.undo(), CardLine.NONE);
        Check.due("anew: TRIES", line.setting(2), 1);
        Check.due("anew: blanks added", line.setting(4), 0);
        Check.due("anew: AFTER", line.station(0, 9), 0);
        Check.due("anew: signs", line.station(0, 4), 0);
        Check.due("anew: day()", line.day(0, 0, 0), CardLine.NONE);
        Check.due("anew: today()", line.today(0, 1), 0);
        Check.due("anew: leftAt()", line.leftAt(0), CardLine.NONE);
        for (int what = 0; what <= 4; what++) {
            Check.due("anew: total(" + what + ")", line.total(what), 0);
        }
        Check.due("anew: the output is empty", line.outputByte(0), CardLine.NONE);
        Check.due("anew: the snapshot stays", line.restoreSnapshot(1), 0);
        Check.due("the snapshot's TRIES", line.setting(2), 5);
        Check.due("the other snapshot", line.restoreSnapshot(0), CardLine.NONE);
    }

    /** Of what a full and busy line was nothing may be left in the next one. */
    private static void promise3BehindAnother() {
        CardLine busy = busyLine();
        busy.run(220);
        looksBusy(busy);
        behind(busy);
        for (int ticks = 200; ticks < 240; ticks++) {
            CardLine line = busyLine();
            line.setTray(ticks % 2 == 0 ? 1 : 20);
            line.run(ticks);
            behind(line);
        }
        CardLine rushed = busyLine();
        for (int card = 0; card < 5; card++) {
            rushed.rush(card);
        }
        rushed.stop(0, true);
        behind(rushed);
    }

    private static CardLine busyLine() {
        StringBuilder full = new StringBuilder("line 3 99 1 3");
        for (int station = 0; station < 6; station++) {
            full.append(station == 0 ? ";wheel 9 001" : ";chip 1 00100").append(";rest ").append(station).append(" 3 2;lot 3");
        }
        for (int card = 0; card < 30; card++) {
            full.append(";card").append(card % 2).append("kc");
        }
        CardLine line = Check.line(full.toString());
        line.swap(0, 10);
        line.swap(1, 11);
        line.refill(9);
        return line;
    }

    private static void looksBusy(CardLine line) {
        for (int what = 1; what <= 3; what++) {
            Check.due("total(" + what + ") of the busy line", line.total(what) > 2 ? 1 : 0, 1);
        }
        for (int station = 0; station < 3; station++) {
            Check.due("fails of station " + station, line.station(station, 5) > 0 ? 1 : 0, 1);
        }
    }

    private static void behind(CardLine line) {
        String next = "line 4 99 2 3;wheel 2 01;rest 0 2 1;chip 2 0;rest 1 3 2;chip 3 0;lot 1;lot 2;card 0 ab;card 1 c;card 0 d;card 1 e";
        // A prediction leaves its copy of the busy line where the description is read then.
        line.leftIn(1);
        Check.due("load() of another one", Check.load(line, next), 3);
        CardLine fresh = Check.line(next);
        Check.dueText("at first", Check.look(line), Check.look(fresh));
        line.run(13);
        fresh.run(13);
        Check.dueText("behind 13 ticks", Check.look(line), Check.look(fresh));
    }

    private static void numbersAndSpaces() {
        takes("line480 0 1 1", 0);
        takes("  line  480  0  1  1  ;  chip5 0  ;lot3;card0a;card 0b 2 ( c 3(d) ) e ", 1);
        takes("line 0005 000 01 09;chip 0099 0;wheel 009 1", 2);
        takes("line 5 0 1 1;lot 1;card 000a", 0);
        takes("line 5 0 1 1;chip 1 0;rest 00 01 0099", 1);
        CardLine line = Check.line("line 5 0 1 1;lot 1;lot2;card1chip;card 1 l o t;card 0 2(2(2(a)))");
        Check.due("letters of chip", line.card(0, 2), 4);
        Check.due("the last letter of chip", line.letter(0, 3), 'p' - 'a');
        Check.due("letters of l o t", line.card(1, 2), 3);
        Check.due("letters of 2(2(2(a)))", line.card(2, 2), 8);
        Check.due("the place of l o t", line.card(1, 1), 1);
    }

    private static void placesOfError1() {
        refuses("", 0, 1, 0);
        refuses("   ", 3, 1, 0);
        refuses(";", 0, 1, 0);
        refuses("chip 5 0", 0, 1, 0);
        refuses(" lines 5 0 1 1", 1, 1, 0);
        refuses("lin", 0, 1, 0);
        refuses("xine 5 0 1 1", 0, 1, 0);
        refuses("linx 5 0 1 1", 0, 1, 0);
        refuses("Line 5 0 1 1", 0, 1, 0);
        refuses("5", 0, 1, 0);
        refuses("line", 4, 1, 0);
        refuses("line ", 5, 1, 0);
        refuses("line;", 4, 1, 0);
        refuses("line 5 0 1", 10, 1, 0);
        refuses("line 5 0 1;", 10, 1, 0);
        refuses("line 5 0 1 x", 11, 1, 0);
        refuses("line 5 0x1 1", 8, 1, 0);
        refuses("line 5 0 1 1 1", 13, 1, 0);
        refuses("line 5 0 1 1 line", 13, 1, 0);
        refuses("line 5 0 1 1\t", 12, 1, 0);
        refuses("line\t5 0 1 1", 4, 1, 0);
        refuses("line -5 0 1 1", 5, 1, 0);
        refuses("line 5 0 1 1" + (char) 233, 12, 1, 0);
        refuses(HEAD, 13, 1, 1);
        refuses(HEAD + " ", 14, 1, 1);
        refuses(HEAD + ";", 13, 1, 1);
        refuses(HEAD + "line 5 9 1 1", 13, 1, 1);
        refuses(HEAD + "lots 1", 13, 1, 1);
        refuses(HEAD + "chip", 17, 1, 1);
        refuses(HEAD + "chip 5", 19, 1, 1);
        refuses(HEAD + "chip 5;", 19, 1, 1);
        refuses(HEAD + "chip 5 a", 20, 1, 1);
        refuses(HEAD + "chip 5 01a", 22, 1, 1);
        refuses(HEAD + "chip 5 01 1", 23, 1, 1);
        refuses(HEAD + "chip 5 0;rest 0 1", 30, 1, 2);
        refuses(HEAD + "chip 5 0;rest 0 1 1;rest 0 1 1 1", 44, 1, 3);
        refuses(HEAD + "lot", 16, 1, 1);
        refuses(HEAD + "lot 1 lot 2", 19, 1, 1);
        refuses(HEAD + "lot 1;card", 23, 1, 2);
        refuses(HEAD + "lot 1;card 0", 25, 1, 2);
        refuses(HEAD + "lot 1;card 0;", 25, 1, 2);
        refuses(HEAD + "lot 1;card 0 ()", 26, 1, 2);
        refuses(HEAD + "lot 1;card 0 )", 26, 1, 2);
        refuses(HEAD + "lot 1;card 0 a)", 27, 1, 2);
        refuses(HEAD + "lot 1;card 0 2()", 28, 1, 2);
        refuses(HEAD + "lot 1;card 0 2(a;", 29, 1, 2);
        refuses(HEAD + "lot 1;card 0 2(3(a)", 32, 1, 2);
        refuses(HEAD + "lot 1;card 0 2(3(a) 2", 34, 1, 2);
        refuses(HEAD + "lot 1;card 0 2a", 27, 1, 2);
        refuses(HEAD + "lot 1;card 0 2 3(a)", 28, 1, 2);
        refuses(HEAD + "lot 1;card 0 a 2", 29, 1, 2);
        refuses(HEAD + "lot 1;card 0 a 2;", 29, 1, 2);
        refuses(HEAD + "lot 1;card 0 aB", 27, 1, 2);
        refuses(HEAD + "lot 1;card 0 a" + (char) 255, 27, 1, 2);
    }

    private static void placesOfError2() {
        refuses("line 0 9 1 1", 5, 2, 0);
        refuses("line 2001 9 1 1", 5, 2, 0);
        refuses("line 99999999999999999999 9 1 1", 5, 2, 0);
        refuses("line 4294967297 9 1 1", 5, 2, 0);
        refuses("line 5 1000 1 1", 7, 2, 0);
        refuses("line 5 9 0 1", 9, 2, 0);
        refuses("line 5 9 21 1", 9, 2, 0);
        refuses("line 5 9 1 0", 11, 2, 0);
        refuses("line 5 9 1 10", 11, 2, 0);
        refuses("line 0", 5, 2, 0);
        refuses(HEAD + "chip 0 0", 18, 2, 1);
        refuses(HEAD + "chip 100 0", 18, 2, 1);
        refuses(HEAD + "stripe 100 0", 20, 2, 1);
        refuses(HEAD + "print 0 0", 19, 2, 1);
        refuses(HEAD + "wheel 0 0", 19, 2, 1);
        refuses(HEAD + "wheel 10 0", 19, 2, 1);
        refuses(HEAD + "chip 5 2", 20, 2, 1);
        refuses(HEAD + "chip 5 01012", 20, 2, 1);
        refuses(HEAD + "chip 5 0000000000000", 20, 2, 1);
        refuses(HEAD + "chip 501", 18, 2, 1);
        refuses(HEAD + "rest 0 1 1", 18, 2, 1);
        refuses(HEAD + "chip 5 0;rest 1 1 1", 27, 2, 2);
        refuses(HEAD + "chip 5 0;rest 0 0 1", 29, 2, 2);
        refuses(HEAD + "chip 5 0;rest 0 100 1", 29, 2, 2);
        refuses(HEAD + "chip 5 0;rest 0 1 0", 31, 2, 2);
        refuses(HEAD + "chip 5 0;rest 0 1 100", 31, 2, 2);
        refuses(HEAD + "lot 10", 17, 2, 1);
        refuses(HEAD + "card 0 a", 18, 2, 1);
        refuses(HEAD + "lot 1;card 1 a", 24, 2, 2);
        refuses(HEAD + "lot 1;card 0 1(a)", 26, 2, 2);
        refuses(HEAD + "lot 1;card 0 10(a)", 26, 2, 2);
        refuses(HEAD + "lot 1;card 0 0", 26, 2, 2);
        refuses(HEAD + "lot 1;card 0 2(2(2(1(a))))", 32, 2, 2);
    }

    private static void placesOfError3() {
        String card = HEAD + "lot 1;card 0 ";
        refuses(card + "abcdefghijklmnopq", 42, 3, 2);
        refuses(card + "2(abcdefghijklmnopq", 44, 3, 2);
        refuses(card + "a2(abcdefgh)", 37, 3, 2);
        refuses(card + "9(ab)", 30, 3, 2);
        refuses(card + "2(3(3(ab)))", 35, 3, 2);
        refuses(card + "2(abcdefgh)i", 37, 3, 2);
        refuses(card + "2(2(2(2(a))))", 32, 3, 2);
        refuses(card + "2(2(2(2", 32, 3, 2);
        refuses(card + "2(2(2(a 9", 34, 3, 2);
        refuses(card + "2(2(2(a) 2(b) 2(2(c", 42, 3, 2);
        String row = "abcdefghijklmnop2(";
        refuses(card + row + row + row + "abcdefghijklmnopq", 26 + 3 * 18 + 16, 3, 2);
        refuses(card + row + row + row + "abcdefghijklmnop)", 26 + 3 * 18 + 16, 3, 2);
        refuses(card + row + row + row + "abcdefghijklmnop2(a", 26 + 3 * 18 + 16, 3, 2);
        takes(card + "abcdefghijklmnop", 0);
        takes(card + "2(abcdefgh)", 0);
        takes(card + "2(2(2(a)2(b)))", 0);
        takes(card + "2(a)2(b)2(c)2(d)2(e)2(f)2(g)2(h)", 0);
    }

    private static void placesOfError4() {
        String six = HEAD + "chip 1 0;chip 1 0;chip 1 0;wheel 1 0;chip 1 0;chip 1 0";
        int long6 = six.length();
        takes(six, 6);
        refuses(six + ";chip 1 0", long6 + 1, 4, 7);
        refuses(six + ";  wheel 10", long6 + 3, 4, 7);
        refuses(six + ";print", long6 + 1, 4, 7);
        String lots = HEAD + "lot 1;lot 1;lot 1;lot 1;lot 1;lot 1";
        takes(lots, 0);
        refuses(lots + ";lot 10", lots.length() + 1, 4, 7);
        StringBuilder cards = new StringBuilder(HEAD + "lot 0");
        for (int card = 0; card < 30; card++) {
            cards.append(";card0a");
        }
        takes(cards.toString(), 0);
        refuses(cards + ";card 7", cards.length() + 1, 4, 32);
        refuses(cards + "; card0b", cards.length() + 2, 4, 32);
    }

    private static void promises4And5() {
        CardLine line = new CardLine();
        Check.load(line, HEAD + "lot 0;lot x");
        Check.due("loadError() of load()", line.loadError(), 1);
        Check.due("loadStatement() of load()", line.loadStatement(), 2);
        Check.load(line, HEAD + "lot 0");
        Check.due("loadError() without an error", line.loadError(), 0);
        Check.due("loadStatement() without an error", line.loadStatement(), CardLine.NONE);
        Check.order(line, 0, "1");
        Check.due("loadError() of order()", line.loadError(), 2);
        Check.due("loadStatement() of order()", line.loadStatement(), 0);
        Check.dueIndex("order(1)", () -> line.order(1));
        Check.due("loadError() behind an exception", line.loadError(), 2);
        Check.due("loadStatement() behind an exception", line.loadStatement(), 0);
        line.saveSnapshot(0);
        Check.order(line, 0, "a");
        Check.due("loadError() of a good order()", line.loadError(), 0);
        Check.due("loadStatement() of a good order()", line.loadStatement(), CardLine.NONE);
        Check.order(line, 0, "2(a");
        line.undo();
        Check.due("loadError() behind undo()", line.loadError(), 1);
        line.restoreSnapshot(0);
        Check.due("loadError() behind restoreSnapshot()", line.loadError(), 1);
        Check.due("loadStatement() behind restoreSnapshot()", line.loadStatement(), 0);
    }

    private static void text(String pieces, String letters) {
        CardLine line = Check.line(HEAD + "lot 0;card 0 " + pieces);
        Check.due("letters of " + pieces, line.card(0, 2), letters.length());
        for (int place = 0; place < letters.length(); place++) {
            Check.due("letter " + place + " of " + pieces, line.letter(0, place), letters.charAt(place) - 'a');
        }
        Check.due("the letter behind " + pieces, line.letter(0, letters.length()), CardLine.NONE);
    }

    private static void texts() {
        text("z", "z");
        text("abcdefghijklmnop", "abcdefghijklmnop");
        text("3(ab)", "ababab");
        text("x2(a2(bc))y", "xabcbcabcbcy");
        text("2(a2(b2(c)))d", "abccbccabccbccd");
        text("9(q)7(r)", "qqqqqqqqqrrrrrrr");
        text("2(2(a)b)2(c)", "aabaabcc");
    }
}
