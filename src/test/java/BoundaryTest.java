/**
 * The boundaries that section 1 names: of each number, of words, scripts and texts, of how many
 * statements of a kind there may be, and where the errors beyond them stand.
 */
public final class BoundaryTest {
    private static final String HEAD = "line 5 9 1 1";
    private static final String LETTERS = "abcdefghijklmnopqrstuvwxyz";

    public static void main(String[] args) {
        numbersOfLine();
        numbersOfStations();
        numbersOfRests();
        numbersOfLotsAndCards();
        scripts();
        for (int row = 0; row <= 3; row++) {
            lettersInRow(row);
            groupsInRow(row);
        }
        nestedGroups();
        depths();
        counts();
        tooManyStations();
        tooManyLots();
        tooManyCards();
        tooManyInOrder();
        beginnings();
        bytes();
        spaces();
        neededSpaces();
        statements();
        smallerNumberCounts();
        Check.end("BoundaryTest");
    }

    private static CardLine takes(String text) {
        CardLine line = new CardLine();
        Check.due("load() of '" + text + "'", Check.load(line, text) >= 0 ? 1 : 0, 1);
        Check.due("loadError() of '" + text + "'", line.loadError(), 0);
        Check.due("loadStatement() of '" + text + "'", line.loadStatement(), CardLine.NONE);
        return line;
    }

    private static void refuses(String text, int kind, int place, int statement) {
        CardLine line = new CardLine();
        Check.due("load() of '" + text + "'", Check.load(line, text), -100 - place);
        Check.due("loadError() of '" + text + "'", line.loadError(), kind);
        Check.due("loadStatement() of '" + text + "'", line.loadStatement(), statement);
    }

    private static int statementsIn(String text) {
        int semicolons = 0;
        for (int at = 0; at < text.length(); at++) {
            semicolons += text.charAt(at) == ';' ? 1 : 0;
        }
        return semicolons;
    }

    private interface Look {
        int answer(CardLine line);
    }

    /** A number between two texts: each value from least to most is taken, and none of those beyond. */
    private static void number(String before, String behind, int least, int most, Look look) {
        int statement = statementsIn(before);
        for (int value = Math.max(0, least - 2); value <= most + 3; value++) {
            for (String zeros : new String[] {"", "0", "000000000000000"}) {
                String text = before + zeros + value + behind;
                if (value >= least && value <= most) {
                    Check.due("the number of '" + text + "'", look.answer(takes(text)), value);
                } else {
                    refuses(text, 2, before.length(), statement);
                }
            }
        }
        String[] great = {"65537", "1000000", "1000001", "2147483647", "2147483648", "4294967295", "4294967296", "4294967297",
            "9223372036854775807", "18446744073709551616", "18446744073709551617", "100000000000000000000000000000001"};
        for (String value : great) {
            refuses(before + value + behind, 2, before.length(), statement);
        }
        for (String none : new String[] {"-1", "+1", "X", "(", ";", ",", ".5"}) {
            refuses(before + none + behind, 1, before.length(), statement);
        }
        refuses(before, 1, before.length(), statement);
        refuses(before + "  ", 1, before.length() + 2, statement);
    }

    private static void numbersOfLine() {
        number("line ", " 9 1 1", 1, 2000, line -> line.setting(0));
        number("line 5 ", " 1 1", 0, 999, line -> line.setting(3));
        number("line 5 9 ", " 1", 1, 20, line -> line.setting(1));
        number("line 5 9 1 ", "", 1, 9, line -> line.setting(2));
        number("line 5 9 1 ", " ;lot 1", 1, 9, line -> line.setting(2));
        number("line", " 9 1 1;chip 1 0", 1, 2000, line -> line.setting(0));
        Check.due("blanks", takes("line 1 999 1 1").count(3), 999);
        Check.due("blanks", takes("line 1 0 1 1").count(3), 0);
    }

    private static void numbersOfStations() {
        String[] kinds = {"chip", "stripe", "print", "wheel"};
        for (int kind = 0; kind < kinds.length; kind++) {
            int due = kind;
            number(HEAD + ";" + kinds[kind] + " ", " 0", 1, kind == 3 ? 9 : 99, line -> line.station(0, 1));
            number(HEAD + ";print 1 1;" + kinds[kind], " 01;lot 0", 1, kind == 3 ? 9 : 99,
                line -> line.station(1, 0) == due ? line.station(1, 1) : -9);
        }
    }

    private static void numbersOfRests() {
        String stations = "";
        for (int count = 1; count <= 6; count++) {
            stations += ";chip 7 0";
            String text = HEAD + stations + ";rest ";
            for (int station = 0; station < count; station++) {
                int rested = station;
                number(text + station + " ", " 3", 1, 99, line -> line.station(rested, 9));
                number(text + station + " 3 ", "", 1, 99, line -> line.station(rested, 10));
            }
            number(text, " 4 5", 0, count - 1, line -> stationWithRest(line));
        }
        refuses(HEAD + ";rest 0 1 1;chip 1 0", 2, HEAD.length() + 6, 1);
        refuses(HEAD + ";chip 1 0;rest 1 1 1;chip 1 0", 2, HEAD.length() + 15, 2);
        CardLine last = takes(HEAD + ";chip 1 0;chip 1 0;rest 1 2 3;rest 0 4 5;rest 1 99 1;rest 1 6 7");
        int[] due = {4, 5, 6, 7};
        for (int number = 0; number < 4; number++) {
            Check.due("of several rests the last one", last.station(number / 2, 9 + number % 2), due[number]);
        }
    }

    private static int stationWithRest(CardLine line) {
        for (int station = 0; station < line.count(0); station++) {
            if (line.station(station, 9) == 4 && line.station(station, 10) == 5) {
                return station;
            }
        }
        return CardLine.NONE;
    }

    private static void numbersOfLotsAndCards() {
        String lots = "";
        for (int count = 1; count <= 6; count++) {
            int last = count - 1;
            number(HEAD + lots + ";lot ", "", 0, 9, line -> line.lot(last, 0));
            lots += ";lot 3";
            number(HEAD + lots + ";card ", " ab", 0, last, line -> line.card(0, 0));
            number(HEAD + lots + ";card0z;card", "ab", 0, last, line -> line.card(1, 0));
        }
        refuses(HEAD + ";card 0 a;lot 1", 2, HEAD.length() + 6, 1);
        refuses(HEAD + ";lot 1;card 1 a;lot 2", 2, HEAD.length() + 12, 2);
    }

    private static void scripts() {
        String digits = "01101110010110";
        for (int length = 1; length <= 12; length++) {
            CardLine line = takes(HEAD + ";chip 1 " + digits.substring(0, length) + ";lot 0;card 0 a");
            Check.due("stations", line.count(0), 1);
        }
        int at = HEAD.length() + 8;
        refuses(HEAD + ";chip 1 " + digits.substring(0, 13), 2, at, 1);
        refuses(HEAD + ";chip 1 " + digits.substring(0, 14) + ";lot 9", 2, at, 1);
        refuses(HEAD + ";chip 1 0000000000000", 2, at, 1);
        refuses(HEAD + ";chip 1", 1, at - 1, 1);
        refuses(HEAD + ";chip 1 ;lot 1", 1, at, 1);
        for (char digit = '2'; digit <= '9'; digit++) {
            for (int place = 0; place < 13; place++) {
                String script = digits.substring(0, place) + digit + digits.substring(place, 12);
                refuses(HEAD + ";chip 1 " + script, 2, at, 1);
                refuses(HEAD + ";chip 1 " + script.substring(0, place + 1) + ";lot 1", 2, at, 1);
            }
        }
    }

    private static String card(String pieces) {
        return HEAD + ";lot 0;card 0 " + pieces;
    }

    private static final int PIECES = HEAD.length() + 14;

    /** So many groups opened around a row, and closed behind it. */
    private static String opened(int groups) {
        return "2(".repeat(groups);
    }

    /** A row of single letters: 16 are taken, the 17th is not; in groups a row may be as long, but then the group not. */
    private static void lettersInRow(int row) {
        for (int letters = 1; letters <= 17; letters++) {
            String pieces = opened(row) + LETTERS.substring(0, letters);
            int end = PIECES + pieces.length();
            if (letters == 17) {
                refuses(card(pieces), 3, end - 1, 2);
                refuses(card(pieces + ")"), 3, end - 1, 2);
            } else if (row == 0) {
                Check.due("letters of " + pieces, takes(card(pieces)).card(0, 2), letters);
            } else {
                refuses(card(pieces), 1, end, 2);
                refuses(card(pieces + ";lot 1"), 1, end, 2);
                closes(row, letters, pieces);
            }
        }
    }

    /** The parentheses behind a row in groups: the first one with which a row has more than 16 letters is the error. */
    private static void closes(int row, int letters, String pieces) {
        int times = letters;
        StringBuilder closed = new StringBuilder(pieces);
        for (int depth = row; depth > 0; depth--) {
            times *= 2;
            closed.append(')');
            if (times > 16) {
                refuses(card(closed.toString()), 3, PIECES + closed.length() - 1, 2);
                refuses(card(closed + "))))zzz"), 3, PIECES + closed.length() - 1, 2);
                return;
            }
        }
        Check.due("letters of " + closed, takes(card(closed.toString())).card(0, 2), times);
    }

    /** A group behind some letters of a row: COUNT times its letters and those letters are at most 16. */
    private static void groupsInRow(int row) {
        for (int count = 2; count <= 9 && row < 3; count++) {
            for (int letters = 1; letters <= 9; letters++) {
                for (int before = 0; before <= 16; before++) {
                    String pieces = opened(row) + LETTERS.substring(0, before) + count + "(" + LETTERS.substring(0, letters) + ")";
                    int end = PIECES + pieces.length();
                    if (before + count * letters > 16) {
                        refuses(card(pieces), 3, end - 1, 2);
                    } else if (row > 0) {
                        refuses(card(pieces), 1, end, 2);
                    } else {
                        Check.due("letters of " + pieces, takes(card(pieces)).card(0, 2), before + count * letters);
                        int room = 16 - before - count * letters;
                        takes(card(pieces + LETTERS.substring(0, room)));
                        refuses(card(pieces + LETTERS.substring(0, room + 1)), 3, end + room, 2);
                    }
                }
            }
        }
    }

    private static void nestedGroups() {
        for (int outer = 2; outer <= 9; outer++) {
            for (int inner = 2; inner <= 9; inner++) {
                String pieces = outer + "(a" + inner + "(b))";
                int end = PIECES + pieces.length();
                if (outer * (1 + inner) > 16) {
                    refuses(card(pieces), 3, end - 1, 2);
                } else {
                    Check.due("letters of " + pieces, takes(card(pieces)).card(0, 2), outer * (1 + inner));
                }
                Check.due("letters of " + inner + "(y)", takes(card(inner + "(y)")).card(0, 2), inner);
            }
        }
        // The letters that are open around a group do not count in its row.
        takes(card("abcdefgh2(ijkl)"));
        refuses(card("abcdefgh2(ijklm)"), 3, PIECES + 15, 2);
        refuses(card("abcdefghijklmno2(p"), 1, PIECES + 18, 2);
        refuses(card("abcdefghijklmno2(abcdefghijklmnop"), 1, PIECES + 33, 2);
        refuses(card("abcdefghijklmno2(abcdefghijklmnopq"), 3, PIECES + 33, 2);
    }

    private static void depths() {
        takes(card("2(a)"));
        takes(card("2(2(a))"));
        takes(card("2(2(2(a)))"));
        takes(card("2(2(2(a)2(b)))"));
        takes(card("2(2(a)2(2(b)))2(2(c))"));
        refuses(card("2(2(2(2(a))))"), 3, PIECES + 6, 2);
        refuses(card("2(2(2(a2(b))))"), 3, PIECES + 7, 2);
        refuses(card("2 ( 2 ( 2 ( 9 ( a ) ) ) )"), 3, PIECES + 12, 2);
        refuses(card("2(2(a2(b)2(c)2(2(d"), 3, PIECES + 15, 2);
        refuses(card("a2(b)2(c2(d)2(e2(f"), 1, PIECES + 18, 2);
        refuses(card("a2(b)2(c2(d)2(e2(2(f"), 3, PIECES + 17, 2);
        refuses(card("a2(b)2(c2(2(2(f"), 3, PIECES + 12, 2);
    }

    private static void counts() {
        for (int count = 0; count <= 12; count++) {
            for (int row = 0; row <= 3; row++) {
                String pieces = opened(row) + count + "(a)" + ")".repeat(row);
                int at = PIECES + 2 * row;
                if (count < 2 || count > 9) {
                    refuses(card(pieces), 2, at, 2);
                    refuses(card("a " + pieces), 2, at + 2, 2);
                } else if (row == 3) {
                    refuses(card(pieces), 3, at, 2);
                } else if (row == 0) {
                    Check.due("letters of " + pieces, takes(card(pieces)).card(0, 2), count);
                    takes(card("00" + pieces));
                }
            }
        }
    }

    private static String stations(int count, int from) {
        String[] kinds = {";chip 1 0", ";stripe 1 0", ";print 1 0", ";wheel 1 0"};
        StringBuilder text = new StringBuilder(HEAD);
        for (int station = 0; station < count; station++) {
            text.append(kinds[(station + from) % 4]);
        }
        return text.toString();
    }

    private static void tooManyStations() {
        for (int from = 0; from < 4; from++) {
            for (int count = 0; count <= 6; count++) {
                Check.due("stations of " + count, takes(stations(count, from)).count(0), count);
            }
            refuses(stations(7, from), 4, stations(6, from).length() + 1, 7);
            refuses(stations(8, from), 4, stations(6, from).length() + 1, 7);
        }
        String six = stations(6, 0);
        for (String more : new String[] {"chip", "stripe", "print", "wheel", "chip 0 0", "wheel 10 0", "print x", "stripe 1 2"}) {
            refuses(six + ";" + more, 4, six.length() + 1, 7);
            refuses(six + " ;  " + more, 4, six.length() + 4, 7);
        }
        refuses(six + ";chips 1 0", 1, six.length() + 1, 7);
        takes(six + ";rest 5 1 1;lot 1;card 0 a");
        refuses(six + ";rest 6 1 1", 2, six.length() + 6, 7);
        refuses(six + ";lot 1;rest 5 1 1;chip 1 0", 4, six.length() + 18, 9);
    }

    private static void tooManyLots() {
        String lots = HEAD;
        for (int count = 0; count <= 6; count++) {
            Check.due("lots of " + count, takes(lots).count(1), count);
            lots += ";lot " + count;
        }
        String six = lots.substring(0, lots.length() - 6);
        refuses(lots, 4, six.length() + 1, 7);
        refuses(six + ";lot", 4, six.length() + 1, 7);
        refuses(six + ";lot x", 4, six.length() + 1, 7);
        refuses(six + ";lots 1", 1, six.length() + 1, 7);
        takes(six + ";card 5 a;chip 1 0");
    }

    private static String cards(int count) {
        StringBuilder text = new StringBuilder(HEAD + ";lot 0;lot 0");
        for (int card = 0; card < count; card++) {
            text.append(";card").append(card % 2).append('a');
        }
        return text.toString();
    }

    private static void tooManyCards() {
        for (int count = 0; count <= 30; count++) {
            CardLine line = takes(cards(count));
            Check.due("cards of " + count, line.count(2), count);
            Check.due("cards of " + count + " that wait", line.count(4), count);
            Check.due("the cards of lot 0 of " + count, line.lot(0, 1), (count + 1) / 2);
            for (int card = 0; card < count; card++) {
                Check.due("the place of card " + card, line.card(card, 1), card / 2);
                Check.due("the lot of card " + card, line.card(card, 0), card % 2);
                Check.due("cardOf() its place", line.cardOf(card % 2, card / 2), card);
            }
        }
        String all = cards(30);
        for (String more : new String[] {"card 0 a", "card", "card 9 a", "card 0 1(a)", "card 0 abcdefghijklmnopq"}) {
            refuses(all + ";" + more, 4, all.length() + 1, 33);
            refuses(all + ";lot 1; " + more, 4, all.length() + 8, 34);
        }
        refuses(all + ";cards", 1, all.length() + 1, 33);
        takes(all + ";lot 1;chip 1 0;rest 0 1 1");
    }

    private static void tooManyInOrder() {
        for (int cards = 0; cards <= 30; cards++) {
            CardLine line = takes(cards(cards));
            for (String text : new String[] {"a", " a2( b ) ", "2(abcdefgh)"}) {
                if (line.count(2) < 30) {
                    int number = line.count(2);
                    Check.due("order(1) as card " + number, Check.order(line, 1, text), number);
                } else {
                    Check.due("order(1) of one too many", Check.order(line, 1, text), -100 - text.length());
                    Check.due("loadError() then", line.loadError(), 4);
                    Check.due("loadStatement() then", line.loadStatement(), 0);
                    Check.due("cards then", line.count(2), 30);
                }
            }
        }
        String[] wrong = {"", "  ", "a;", "0(a)", "9(ab)", "2(a"};
        int[] kinds = {1, 1, 1, 2, 3, 1};
        int[] places = {0, 2, 1, 0, 4, 3};
        CardLine full = takes(cards(30));
        for (int text = 0; text < wrong.length; text++) {
            Check.due("order(0) of '" + wrong[text] + "' with 30 cards", Check.order(full, 0, wrong[text]), -100 - places[text]);
            Check.due("loadError() then", full.loadError(), kinds[text]);
        }
    }

    /** Each beginning of a description ends too early at its length, but where it may end. */
    private static void beginnings() {
        String text = "line 5 9 1 1 ; chip 7 01;rest 0 2 3;lot 4;card 0 a 2 ( b 3(c))";
        int[] whole = {12, 13, 23, 24, 35, 41, 50, 51};
        // Of a word or a number that is cut off the first byte is the place, if it can't stand there.
        for (int length = 0; length < text.length(); length++) {
            String cut = text.substring(0, length);
            boolean ends = false;
            for (int end : whole) {
                ends |= length == end;
            }
            int word = length;
            while (word > 0 && Character.isLetter(cut.charAt(word - 1)) && length < 50) {
                word--;
            }
            String last = cut.substring(word);
            boolean cutWord = !last.isEmpty() && !last.equals("line") && !last.equals("chip") && !last.equals("rest")
                && !last.equals("lot") && !last.equals("card");
            if (ends) {
                takes(cut);
            } else {
                refuses(cut, 1, cutWord ? word : length, statementsIn(cut));
            }
        }
        takes(text);
    }

    /** Each byte behind a text that is whole: spaces, a semicolon and digits may stand there, in a TEXT letters too. */
    private static void bytes() {
        for (int sign = 1; sign <= 255; sign++) {
            char with = (char) sign;
            if (with == ' ') {
                takes(HEAD + with);
                takes(card("b" + with));
            } else if (with == ';') {
                refuses(HEAD + with, 1, HEAD.length() + 1, 1);
                refuses(card("b" + with), 1, PIECES + 2, 3);
            } else if (with >= '0' && with <= '9') {
                refuses(HEAD + with, 2, HEAD.length() - 1, 0);
                refuses(card("b" + with), with < '2' ? 2 : 1, PIECES + (with < '2' ? 1 : 2), 2);
            } else if (with >= 'a' && with <= 'z') {
                refuses(HEAD + with, 1, HEAD.length(), 0);
                Check.due("the letter " + with, takes(card("b" + with)).letter(0, 1), with - 'a');
            } else {
                refuses(HEAD + with, 1, HEAD.length(), 0);
                refuses(card("b" + with), 1, PIECES + 1, 2);
            }
            if (with != ' ' && with != 'l') {
                refuses(with + "ine 5 9 1 1", 1, 0, 0);
            }
        }
    }

    private static void spaces() {
        String[] parts = {"line", "5", "9", "1", "1", ";", "wheel", "7", "01", ";", "rest", "0", "2", "3", ";", "lot", "4", ";",
            "card", "0", "a", "2", "(", "b", "3", "(", "c", ")", "d", ")", "e", ";", "card", "0", "7", "(", "z", ")"};
        String due = null;
        for (int wide = 0; wide <= parts.length + 1; wide++) {
            StringBuilder text = new StringBuilder(wide == 0 ? "   " : "");
            for (int part = 0; part < parts.length; part++) {
                text.append(parts[part]);
                boolean needed = part + 1 < parts.length && isNumber(parts[part]) && isNumber(parts[part + 1]);
                text.append(part + 1 == wide ? "    " : needed ? " " : "");
            }
            CardLine line = takes(text.toString());
            due = due == null ? Check.look(line) : due;
            Check.dueText("the line of " + text, Check.look(line), due);
        }
    }

    private static boolean isNumber(String part) {
        return Character.isDigit(part.charAt(0));
    }

    private static void neededSpaces() {
        refuses("line 59 1 1", 1, 11, 0);
        refuses("line 5 91 1", 1, 11, 0);
        refuses("line 5 9 11", 1, 11, 0);
        refuses("line 5911", 2, 5, 0);
        refuses("line 1911", 1, 9, 0);
        refuses("li ne 5 9 1 1", 1, 0, 0);
        refuses("line line 5 9 1 1", 1, 5, 0);
        refuses(HEAD + ";lotcard 0 a", 1, 13, 1);
        refuses(HEAD + ";lot 1card 0 a", 1, 18, 1);
        refuses(HEAD + ";lot 1 card 0 a", 1, 19, 1);
        refuses(HEAD + ";chip 10", 1, 20, 1);
        refuses(HEAD + ";chip 1 0 1", 1, 22, 1);
        Check.due("letters of 'c h i p'", takes(card("c h i p")).card(0, 2), 4);
        Check.due("letters of card 0card", takes(HEAD + ";lot 0;card 0card").card(0, 2), 4);
    }

    private static void statements() {
        StringBuilder text = new StringBuilder("line1 1 1 1;chip1 0");
        int statement = 2;
        while (text.length() < 580) {
            text.append(";rest0 1 1");
            refuses(text + ";", 1, text.length() + 1, statement + 1);
            refuses(text + ";x", 1, text.length() + 1, statement + 1);
            refuses(text + " x", 1, text.length() + 1, statement);
            statement++;
        }
        takes(text.toString());
        StringBuilder semicolons = new StringBuilder(HEAD);
        refuses(semicolons.append(";".repeat(500)).toString(), 1, HEAD.length() + 1, 1);
    }

    private static void smallerNumberCounts() {
        refuses(card("2(2(2(1(a))))"), 2, PIECES + 6, 2);
        refuses(card("2(2(2(10(a))))"), 2, PIECES + 6, 2);
        refuses(card("abcdefghijklmnop2()"), 1, PIECES + 18, 2);
        refuses(card("abcdefghijklmnop)"), 1, PIECES + 16, 2);
        refuses(card("abcdefghijklmnopA"), 1, PIECES + 16, 2);
        refuses(card("abcdefghijklmnop1"), 2, PIECES + 16, 2);
        refuses(stations(6, 0) + ";line 5 9 1 1", 1, stations(6, 0).length() + 1, 7);
        refuses(stations(6, 0) + ";chi", 1, stations(6, 0).length() + 1, 7);
        refuses(cards(30) + ";car", 1, cards(30).length() + 1, 33);
    }
}
