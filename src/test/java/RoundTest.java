import java.util.ArrayList;
import java.util.List;

/**
 * What goes round or is full: the wheel, the script, the kept days, the actions that can be taken
 * back, the rows of stations, lots and cards, the buffer.
 */
public final class RoundTest {
    public static void main(String[] args) {
        wheelSteps();
        wheelTicks();
        wheelOnTheLine();
        scripts();
        scriptsBehindBringingBack();
        for (int length : new int[] {1, 2, 3, 7, 9, 10, 11}) {
            keptDays(length);
        }
        longestDay();
        keptDaysComeBack();
        for (int actions = 0; actions <= 40; actions++) {
            actions(actions);
        }
        actionsToAndFro();
        fullRowsComeBack();
        fullBuffer();
        lastCall();
        Check.end("RoundTest");
    }

    private static int turned(int from, int to) {
        int up = 0;
        for (int at = from; at != to; at = (at + 1) % 26) {
            up++;
        }
        int down = 0;
        for (int at = from; at != to; at = (at + 25) % 26) {
            down++;
        }
        return Math.min(up, down);
    }

    private static CardLine lettersLine() {
        StringBuilder text = new StringBuilder("line 9 99 20 1;wheel 1 0;lot 0");
        for (char letter = 'a'; letter <= 'z'; letter++) {
            text.append(";card0").append(letter);
        }
        return Check.line(text.toString());
    }

    /** From each letter to each letter, both ways round. */
    private static void wheelSteps() {
        CardLine line = lettersLine();
        for (int from = 0; from < 26; from++) {
            for (int to = 0; to < 26; to++) {
                Check.due("steps(" + to + ", " + from + ")", line.steps(to, from), turned(from, to));
            }
        }
        CardLine texts = Check.line("line 9 9 1 1;lot 0;card 0 zazaz;card 0 8(an);card 0 azmnb;card 0 16(a);card 0 nao"
            .replace("16(a)", "2(8(a))"));
        int[] due = {1 + 1 + 1 + 1 + 1, 15 * 13, 0 + 1 + 13 + 1 + 12, 0, 13 + 13 + 12};
        for (int card = 0; card < due.length; card++) {
            Check.due("steps of text " + card, texts.steps(card, 0), due[card]);
        }
        Check.due("steps of 8(an) from n", texts.steps(1, 13), 16 * 13);
    }

    /** One tick more for each SPEED steps begun. */
    private static void wheelTicks() {
        for (int speed = 1; speed <= 9; speed++) {
            CardLine line = lettersLine();
            line.setPace(0, speed);
            for (int card = 0; card < 26; card++) {
                int more = 0;
                for (int steps = turned(0, card); steps > 0; steps -= speed) {
                    more++;
                }
                Check.due("ticksFor(0, " + card + ") with SPEED " + speed, line.ticksFor(0, card), 1 + more);
            }
        }
        CardLine most = Check.line("line 9 9 1 1;wheel 1 0;wheel 9 0;wheel 8 0;lot 0;card 0 8(na)");
        Check.due("the most ticks", most.ticksFor(0, 0), 16 + 16 * 13);
        Check.due("with SPEED 9", most.ticksFor(1, 0), 16 + 24);
        Check.due("with SPEED 8", most.ticksFor(2, 0), 16 + 26);
    }

    private static void wheelOnTheLine() {
        CardLine line = Check.line("line 99 99 20 1;wheel 2 0;lot 0;card 0 z;card 0 ay;card 0 l;card 0 y;card 0 ml");
        int[] steps = {1, 1 + 2, 13, 13, 12 + 1};
        int[] letters = {25, 24, 11, 24, 11};
        int sum = 0;
        for (int card = 0; card < steps.length; card++) {
            line.run(card == 0 ? 1 : line.station(0, 3));
            sum += steps[card];
            Check.due("the card", line.station(0, 2), card);
            Check.due("all steps with card " + card, line.total(3), sum);
            Check.due("the letter as soon as card " + card + " has entered", line.station(0, 8), letters[card]);
            Check.due("ticks of card " + card, line.station(0, 3), line.card(card, 2) + (steps[card] + 1) / 2);
        }
    }

    private static CardLine manyCards(String station) {
        StringBuilder text = new StringBuilder("line 2000 999 20 9;" + station + ";lot 0");
        for (int card = 0; card < 30; card++) {
            text.append(";card0a");
        }
        return Check.line(text.toString());
    }

    /** Of each length: the sign 1 at each place, used when its turn comes and not before. */
    private static void scripts() {
        for (int length = 1; length <= 12; length++) {
            for (int place = 0; place < length; place++) {
                char[] signs = new char[length];
                for (int sign = 0; sign < length; sign++) {
                    signs[sign] = sign == place ? '1' : '0';
                }
                String script = new String(signs);
                CardLine line = manyCards("chip 1 " + script);
                line.run(1);
                int fails = 0;
                for (int used = 0; used < 2 * length + 2; used++) {
                    Check.due("signs of " + script, line.station(0, 4), used);
                    Check.due("fails behind " + used + " signs of " + script, line.station(0, 5), fails);
                    fails += used % length == place ? 1 : 0;
                    line.run(1);
                }
            }
        }
    }

    private static void scriptsBehindBringingBack() {
        CardLine line = manyCards("chip 1 001");
        line.run(3);
        line.saveSnapshot(0);
        line.run(1);
        Check.due("the third sign", line.total(1), 1);
        line.undo();
        line.run(1);
        Check.due("the third sign again", line.total(1), 1);
        line.restoreSnapshot(0);
        Check.due("signs behind restoreSnapshot()", line.station(0, 4), 2);
        line.run(1);
        Check.due("the third sign once more", line.total(1), 1);
        line.run(2);
        Check.due("not the next two", line.total(1), 1);
    }

    /** What the days were, gathered tick by tick; index 0 for the first one. */
    private static void keptDays(int length) {
        CardLine line = Check.line("line " + length + " 99 1 9;chip 1 0100110;lot 5;lot 1;lot 3;"
            + "card 0 a;card 0 b;card 1 c;card 1 d;card 0 a;card 2 a;card 2 a;card 0 a;card 1 a;card 1 a;card 2 a;card 0 a;card 0 a");
        List<int[]> days = new ArrayList<>();
        int[] now = new int[6];
        for (int tick = 1; tick <= 25 * length && tick <= 60; tick++) {
            line.run(1);
            int[] behind = sums(line);
            if (tick % length == 0) {
                int[] day = new int[6];
                for (int number = 0; number < 6; number++) {
                    day[number] = behind[number] - now[number];
                }
                days.add(day);
                now = behind;
            }
            looksKept(line, days, now, behind);
        }
    }

    private static int[] sums(CardLine line) {
        int[] sums = new int[6];
        for (int lot = 0; lot < 3; lot++) {
            sums[2 * lot] = line.lot(lot, 2);
            sums[2 * lot + 1] = line.lot(lot, 4);
        }
        return sums;
    }

    private static void looksKept(CardLine line, List<int[]> days, int[] dayBegan, int[] behind) {
        for (int number = 0; number < 6; number++) {
            String of = "(" + number / 2 + ", " + number % 2 + ") at " + line.now();
            Check.due("today" + of, line.today(number / 2, number % 2), behind[number] - dayBegan[number]);
            for (int index = 0; index <= 12; index++) {
                boolean kept = index < 10 && index < days.size();
                int due = kept ? days.get(days.size() - 1 - index)[number] : CardLine.NONE;
                Check.due("day " + index + of, line.day(index, number / 2, number % 2), due);
            }
            Check.due("day MAX" + of, line.day(Integer.MAX_VALUE, number / 2, number % 2), CardLine.NONE);
        }
    }

    private static void longestDay() {
        CardLine line = Check.line("line 2000 99 1 9;chip 1 0;lot 0;card 0 a");
        line.run(1999);
        Check.due("today() in the last tick of the day", line.today(0, 0), 1);
        Check.due("day(0) ahead of its end", line.day(0, 0, 0), CardLine.NONE);
        line.run(1);
        Check.due("today() behind it", line.today(0, 0), 0);
        Check.due("day(0) behind it", line.day(0, 0, 0), 1);
        Check.due("day(1) behind it", line.day(1, 0, 0), CardLine.NONE);
        for (int day = 2; day <= 11; day++) {
            line.run(2000);
            Check.due("the first day behind day " + day, line.day(day - 1, 0, 0), day <= 10 ? 1 : CardLine.NONE);
        }
    }

    /** All ten days, wherever they stand, come back with undo() and with a snapshot. */
    private static void keptDaysComeBack() {
        for (String script : new String[] {"01", "0", "1"}) {
            for (int ticks = 10; ticks <= 21; ticks++) {
                CardLine line = Check.line("line 1 99 1 9;chip 1 " + script + ";lot 5;lot 1;card 0 a;card 1 b;card 1 c;card 0 d"
                    + ";card 1 e;card 0 e;card 0 a;card 1 b;card 1 c;card 0 d;card 1 e;card 0 e");
                line.run(ticks);
                String before = Check.look(line);
                line.saveSnapshot(1);
                line.run(11);
                line.undo();
                Check.dueText("the days of " + ticks + " ticks behind undo()", Check.look(line), before);
                line.run(11);
                line.stop(0, true);
                line.run(11);
                line.restoreSnapshot(1);
                Check.dueText("the days of " + ticks + " ticks from a snapshot", Check.look(line), before);
            }
        }
    }

    private static void actions(int actions) {
        CardLine line = Check.line("line 9 0 1 1;lot 0;lot 0");
        for (int action = 1; action <= actions; action++) {
            line.refill(action);
            Check.due("count(9) behind " + action, line.count(9), Math.min(action, 8));
        }
        int blanks = line.count(3);
        int back = Math.min(actions, 8);
        for (int left = back - 1; left >= 0; left--) {
            Check.due("undo() of " + actions, line.undo(), left);
            blanks -= actions - back + left + 1;
            Check.due("blanks then", line.count(3), blanks);
            Check.due("count(9) then", line.count(9), left);
        }
        Check.due("undo() behind all of " + actions, line.undo(), CardLine.NONE);
        Check.due("blanks then", line.count(3), blanks);
        Check.due("count(9) then", line.count(9), 0);
        line.setTries(2);
        Check.due("an action behind it", line.count(9), 1);
        Check.due("undo() of it", line.undo(), 0);
        Check.due("TRIES then", line.setting(2), 1);
    }

    /** Actions, errors and undo() mixed; what is due is kept in a list. */
    private static void actionsToAndFro() {
        CardLine line = Check.line("line 9 0 1 1;lot 0;card 0 a");
        line.giveUp(0);
        line.saveSnapshot(0);
        line.restoreSnapshot(0);
        List<Integer> past = new ArrayList<>();
        int blanks = 0;
        for (int step = 1; step <= 120; step++) {
            int kind = step * step % 7;
            if (kind == 2) {
                int due = past.isEmpty() ? CardLine.NONE : past.size() - 1;
                blanks = past.isEmpty() ? blanks : past.remove(past.size() - 1);
                Check.due("undo() at step " + step, line.undo(), due);
            } else if (kind == 4) {
                Check.due("an error at step " + step, line.rush(0), CardLine.WRONG_STATE);
            } else {
                past.add(blanks);
                if (past.size() > 8) {
                    past.remove(0);
                }
                blanks += step;
                Check.due("refill(" + step + ")", line.refill(step), blanks);
            }
            Check.due("blanks at step " + step, line.count(3), blanks);
            Check.due("count(9) at step " + step, line.count(9), past.size());
        }
        while (!past.isEmpty()) {
            line.undo();
            Check.due("blanks going back", line.count(3), past.remove(past.size() - 1));
        }
        Check.due("undo() in the end", line.undo(), CardLine.NONE);
    }

    /** The last card of 30, at the last place, that leaves last. */
    private static void fullRowsComeBack() {
        StringBuilder text = new StringBuilder("line 9 99 20 9");
        for (int number = 0; number < 6; number++) {
            text.append(";chip 1 0;lot ").append(number);
        }
        for (int card = 0; card < 30; card++) {
            text.append(";card").append(5).append((char) ('a' + card % 26));
        }
        CardLine line = Check.line(text.toString());
        String waiting = Check.look(line);
        line.saveSnapshot(0);
        line.swap(29, 0);
        line.undo();
        Check.dueText("the places behind undo()", Check.look(line), waiting);
        line.swap(29, 28);
        line.stop(5, true);
        line.restoreSnapshot(0);
        Check.dueText("the places from a snapshot", Check.look(line), waiting);
        line.run(2000);
        Check.due("leftAt(29)", line.leftAt(29), 29);
        String left = Check.look(line);
        line.saveSnapshot(1);
        line.run(1);
        line.undo();
        Check.dueText("what left behind undo()", Check.look(line), left);
        line.restoreSnapshot(0);
        line.swap(29, 28);
        line.run(2000);
        Check.due("leftAt(29) the other way", line.leftAt(29), 28);
        line.restoreSnapshot(1);
        Check.dueText("what left from a snapshot", Check.look(line), left);
        line.restoreSnapshot(0);
        line.setPace(5, 9);
        line.setRank(5, 9);
        line.stop(5, true);
        line.stop(4, true);
        line.restoreSnapshot(0);
        Check.dueText("the last station and lot from a snapshot", Check.look(line), waiting);
    }

    private static void fill(CardLine line, int bytes) {
        for (int number = 0; number < bytes; number++) {
            Check.due("append() to " + number, line.append(' '), number + 1);
        }
    }

    private static void fullBuffer() {
        CardLine line = Check.line("line 9 9 1 1;lot 0");
        long[] numbers = {1, 0x0100, 0x8000000000000000L, -1, 0x0101, 0x0100000000000001L, Long.MAX_VALUE};
        int[] bytes = {1, 1, 1, 8, 2, 2, 8};
        for (int room = 0; room <= 9; room++) {
            for (int number = 0; number < numbers.length; number++) {
                fill(line, 600 - room);
                int due = bytes[number] > room ? CardLine.FULL : 600 - room + bytes[number];
                Check.due("append(" + numbers[number] + ") with room for " + room, line.append(numbers[number]), due);
                int length = Math.max(due, 600 - room);
                Check.due("append(0) then", line.append(0), length);
                Check.due("order(0) of it", line.order(0), -100 - (600 - room));
                Check.due("append(0) behind order()", line.append(0), 0);
            }
        }
        fill(line, 599);
        line.append('q');
        Check.due("order(0) of 600 bytes", line.order(0), 0);
        Check.due("its letter", line.letter(0, 0), 'q' - 'a');
        fill(line, 584);
        Check.append(line, "line 9 9 1 1;lot");
        Check.due("load() of 600 bytes that end too early", line.load(), -700);
        fill(line, 583);
        Check.append(line, "line 7 9 1 1;lot0");
        Check.due("append() to 601", line.append(';'), CardLine.FULL);
        Check.due("append(0) to 600", line.append(0), 600);
        Check.due("load() of 600 bytes", line.load(), 0);
        Check.due("DAY", line.setting(0), 7);
        Check.due("lots", line.count(1), 1);
    }

    /** The 512th call answers as the first one does. */
    private static void lastCall() {
        CardLine line = new CardLine();
        Check.append(line, "line 2000 9 1 1;chip 1 0;wheel 1 0;lot 0;card 0 a;card 0 b");
        int calls = 8;
        Check.due("load()", line.load(), 2);
        line.run(2);
        line.stop(1, true);
        calls += 3;
        while (calls < 508) {
            line.run(2000);
            calls++;
        }
        int time = 2 + 497 * 2000;
        Check.due("now() in the end", line.now(), time);
        Check.dueDouble("busyPart(0) in the end", line.busyPart(0), 2.0f / (float) time);
        Check.due("total(4) in the end", line.total(4), time - 2);
        Check.due("day(9, 0, 1) in the end", line.day(9, 0, 1), 0);
    }
}
