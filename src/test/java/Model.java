import java.util.ArrayList;
import java.util.Arrays;
import java.util.Comparator;
import java.util.List;
import java.util.stream.Collectors;
import java.util.stream.IntStream;

/**
 * The document told a second time, as plainly as it can be and by other ways than CardLine goes: it
 * keeps no number that it can count anew, and copies everything whenever it needs a copy.
 */
final class Model {
    private static final int NONE = -1;
    private static final int FULL = -2;
    private static final int WRONG_STATE = -3;

    static final class Station {
        String kind;
        int pace;
        String script;
        Integer card;
        int need;
        int used;
        int usedBeforeRest;
        int fails;
        int wentOn;
        boolean stopped;
        int letter;
        int after;
        int ticks;
        int rests;
        int worked;

        Station copy() {
            Station c = new Station();
            c.kind = kind;
            c.pace = pace;
            c.script = script;
            c.card = card;
            c.need = need;
            c.used = used;
            c.usedBeforeRest = usedBeforeRest;
            c.fails = fails;
            c.wentOn = wentOn;
            c.stopped = stopped;
            c.letter = letter;
            c.after = after;
            c.ticks = ticks;
            c.rests = rests;
            c.worked = worked;
            return c;
        }
    }

    static final class Card {
        int lot;
        int place;
        String text;
        String state = "waits";
        int station = NONE;
        int fails;
        int scraps;
        int leftAt = NONE;
        boolean rushed;
        List<Integer> failTimes = new ArrayList<>();

        Card copy() {
            Card c = new Card();
            c.lot = lot;
            c.place = place;
            c.text = text;
            c.state = state;
            c.station = station;
            c.fails = fails;
            c.scraps = scraps;
            c.leftAt = leftAt;
            c.rushed = rushed;
            c.failTimes = new ArrayList<>(failTimes);
            return c;
        }

        boolean finished() {
            return state.equals("left") || state.equals("given up");
        }
    }

    static final class State {
        int day;
        int blanks;
        int tray;
        int tries;
        int told;
        int added;
        int time;
        int steps;
        int readyTicks;
        int fed;
        List<Station> stations = new ArrayList<>();
        List<Integer> ranks = new ArrayList<>();
        List<Card> cards = new ArrayList<>();
        List<Integer> left = new ArrayList<>();

        State copy() {
            State c = new State();
            c.day = day;
            c.blanks = blanks;
            c.tray = tray;
            c.tries = tries;
            c.told = told;
            c.added = added;
            c.time = time;
            c.steps = steps;
            c.readyTicks = readyTicks;
            c.fed = fed;
            for (Station station : stations) {
                c.stations.add(station.copy());
            }
            c.ranks = new ArrayList<>(ranks);
            for (Card card : cards) {
                c.cards.add(card.copy());
            }
            c.left = new ArrayList<>(left);
            return c;
        }
    }

    private static final class TextError extends Exception {
        private static final long serialVersionUID = 1;
        final int kind;
        final int place;

        TextError(int kind, int place) {
            this.kind = kind;
            this.place = place;
        }
    }

    private State now = new State();
    private final List<State> past = new ArrayList<>();
    private final State[] snapshots = new State[2];
    private String buffer = "";
    private String output = "";
    private int errorKind = 0;
    private int errorStatement = NONE;

    Model() {
        now.day = 480;
        now.tray = 1;
        now.tries = 1;
    }

    // Reading

    int append(long bytes) {
        StringBuilder more = new StringBuilder();
        for (int index = 7; index >= 0; index--) {
            int sign = (int) (bytes >> 8 * index & 0xFF);
            if (sign != 0) {
                more.append((char) sign);
            }
        }
        if (buffer.length() + more.length() > 600) {
            return FULL;
        }
        buffer += more;
        return buffer.length();
    }

    private String text;
    private int at;
    private int statement;

    private void spaces() {
        while (at < text.length() && text.charAt(at) == ' ') {
            at++;
        }
    }

    private char sign() {
        spaces();
        return at < text.length() ? text.charAt(at) : '\0';
    }

    private String run(String signs) {
        spaces();
        int from = at;
        while (at < text.length() && signs.indexOf(text.charAt(at)) >= 0) {
            at++;
        }
        return text.substring(from, at);
    }

    private String digits() throws TextError {
        String digits = run("0123456789");
        if (digits.isEmpty()) {
            throw new TextError(1, at);
        }
        return digits;
    }

    private int number(int least, int most) throws TextError {
        String digits = digits();
        java.math.BigInteger value = new java.math.BigInteger(digits);
        if (value.compareTo(java.math.BigInteger.valueOf(least)) < 0
                || value.compareTo(java.math.BigInteger.valueOf(most)) > 0) {
            throw new TextError(2, at - digits.length());
        }
        return value.intValue();
    }

    private String pieces(int depth) throws TextError {
        String letters = "";
        while (true) {
            char next = sign();
            if (next >= 'a' && next <= 'z') {
                letters += next;
                if (letters.length() > 16) {
                    throw new TextError(3, at);
                }
                at++;
            } else if (next >= '0' && next <= '9') {
                int place = at;
                int times = number(2, 9);
                if (depth == 3) {
                    throw new TextError(3, place);
                }
                if (sign() != '(') {
                    throw new TextError(1, at);
                }
                at++;
                String inner = pieces(depth + 1);
                if (sign() != ')') {
                    throw new TextError(1, at);
                }
                letters += inner.repeat(times);
                if (letters.length() > 16) {
                    throw new TextError(3, at);
                }
                at++;
            } else {
                if (letters.isEmpty()) {
                    throw new TextError(1, at);
                }
                return letters;
            }
        }
    }

    private void statement(State made) throws TextError {
        String word = run("abcdefghijklmnopqrstuvwxyz");
        int place = at - word.length();
        if (!List.of("line", "chip", "stripe", "print", "wheel", "rest", "lot", "card").contains(word)
                || (statement == 0) != word.equals("line")) {
            throw new TextError(1, place);
        }
        if (word.equals("line")) {
            made.day = number(1, 2000);
            made.told = number(0, 999);
            made.blanks = made.told;
            made.tray = number(1, 20);
            made.tries = number(1, 9);
        } else if (word.equals("rest")) {
            int station = number(0, made.stations.size() - 1);
            int after = number(1, 99);
            int ticks = number(1, 99);
            made.stations.get(station).after = after;
            made.stations.get(station).ticks = ticks;
        } else if (word.equals("lot")) {
            if (made.ranks.size() == 6) {
                throw new TextError(4, place);
            }
            made.ranks.add(number(0, 9));
        } else if (word.equals("card")) {
            if (made.cards.size() == 30) {
                throw new TextError(4, place);
            }
            int lot = number(0, made.ranks.size() - 1);
            addCard(made, lot, pieces(0));
        } else {
            if (made.stations.size() == 6) {
                throw new TextError(4, place);
            }
            Station station = new Station();
            station.kind = word;
            station.pace = number(1, word.equals("wheel") ? 9 : 99);
            station.script = digits();
            if (!station.script.matches("[01]{1,12}")) {
                throw new TextError(2, at - station.script.length());
            }
            made.stations.add(station);
        }
    }

    private static void addCard(State state, int lot, String letters) {
        Card card = new Card();
        card.lot = lot;
        card.place = (int) state.cards.stream().filter(c -> c.lot == lot).count();
        card.text = letters;
        state.cards.add(card);
    }

    private void beginReading() {
        text = buffer;
        buffer = "";
        at = 0;
        statement = 0;
        errorKind = 0;
        errorStatement = NONE;
    }

    private int refuse(TextError error) {
        errorKind = error.kind;
        errorStatement = statement;
        return -100 - error.place;
    }

    int load() {
        beginReading();
        State made = new State();
        try {
            statement(made);
            while (sign() == ';') {
                at++;
                statement++;
                statement(made);
            }
            if (at < text.length()) {
                throw new TextError(1, at);
            }
        } catch (TextError error) {
            return refuse(error);
        }
        now = made;
        past.clear();
        output = "";
        return now.stations.size();
    }

    int loadError() {
        return errorKind;
    }

    int loadStatement() {
        return errorStatement;
    }

    int order(int lot) {
        needLot(lot);
        beginReading();
        try {
            String letters = pieces(0);
            if (at < text.length()) {
                throw new TextError(1, at);
            }
            if (now.cards.size() == 30) {
                throw new TextError(4, text.length());
            }
            act();
            addCard(now, lot, letters);
        } catch (TextError error) {
            return refuse(error);
        }
        return now.cards.size() - 1;
    }

    // Looking

    private void need(boolean held) {
        if (!held) {
            throw new IllegalArgumentException();
        }
    }

    private void needIn(int value, int least, int most) {
        need(value >= least && value <= most);
    }

    private void needIndex(int index, int size) {
        if (index < 0 || index >= size) {
            throw new IndexOutOfBoundsException();
        }
    }

    private void needStation(int station) {
        needIndex(station, now.stations.size());
    }

    private void needCard(int card) {
        needIndex(card, now.cards.size());
    }

    private void needLot(int lot) {
        needIndex(lot, now.ranks.size());
    }

    private static int inState(State state, String name) {
        return (int) state.cards.stream().filter(c -> c.state.equals(name)).count();
    }

    private static List<Card> cardsOf(State state, int lot) {
        return state.cards.stream().filter(c -> c.lot == lot)
            .sorted(Comparator.comparingInt(c -> c.place)).collect(Collectors.toList());
    }

    private static int nextOf(State state, int lot) {
        for (Card card : cardsOf(state, lot)) {
            if (!card.finished()) {
                return state.cards.indexOf(card);
            }
        }
        return NONE;
    }

    int count(int what) {
        needIn(what, 0, 9);
        int[] answers = {now.stations.size(), now.ranks.size(), now.cards.size(), now.blanks, inState(now, "waits"),
            inState(now, "line"), inState(now, "tray"), inState(now, "left"), inState(now, "given up"), past.size()};
        return answers[what];
    }

    int setting(int what) {
        needIn(what, 0, 4);
        return new int[] {now.day, now.tray, now.tries, now.told, now.added}[what];
    }

    int station(int station, int what) {
        needStation(station);
        needIn(what, 0, 12);
        Station s = now.stations.get(station);
        return new int[] {List.of("chip", "stripe", "print", "wheel").indexOf(s.kind), s.pace,
            s.card == null ? NONE : s.card, s.card == null ? 0 : s.need, s.used, s.fails, s.wentOn, s.stopped ? 1 : 0,
            s.kind.equals("wheel") ? s.letter : NONE, s.after, s.ticks, s.rests, s.worked}[what];
    }

    int card(int card, int what) {
        needCard(card);
        needIn(what, 0, 7);
        Card c = now.cards.get(card);
        return new int[] {c.lot, c.place, c.text.length(),
            List.of("waits", "line", "tray", "left", "given up").indexOf(c.state), c.station, c.fails, c.scraps,
            c.leftAt}[what];
    }

    int letter(int card, int place) {
        needCard(card);
        String letters = now.cards.get(card).text;
        return place < 0 || place >= letters.length() ? NONE : letters.charAt(place) - 'a';
    }

    int lot(int lot, int what) {
        needLot(lot);
        needIn(what, 0, 6);
        List<Card> cards = cardsOf(now, lot);
        return new int[] {now.ranks.get(lot), cards.size(),
            (int) cards.stream().filter(c -> c.state.equals("left")).count(),
            (int) cards.stream().filter(c -> c.state.equals("given up")).count(),
            cards.stream().mapToInt(c -> c.fails).sum(), cards.stream().mapToInt(c -> c.scraps).sum(),
            nextOf(now, lot)}[what];
    }

    int cardOf(int lot, int place) {
        needLot(lot);
        for (Card card : cardsOf(now, lot)) {
            if (card.place == place) {
                return now.cards.indexOf(card);
            }
        }
        return NONE;
    }

    private int at(List<Integer> numbers, int index) {
        return index < 0 || index >= numbers.size() ? NONE : numbers.get(index);
    }

    int trayAt(int index) {
        return at(IntStream.range(0, now.cards.size()).filter(c -> now.cards.get(c).state.equals("tray")).boxed()
            .collect(Collectors.toList()), index);
    }

    int leftAt(int index) {
        return at(now.left, index);
    }

    int nextFed() {
        return toFeed(now);
    }

    private static int stepsOf(String letters, int from) {
        int steps = 0;
        int stands = from;
        for (char letter : letters.toCharArray()) {
            int up = Math.floorMod(letter - 'a' - stands, 26);
            steps += Math.min(up, 26 - up);
            stands = letter - 'a';
        }
        return steps;
    }

    int steps(int card, int letter) {
        needCard(card);
        needIn(letter, 0, 25);
        return stepsOf(now.cards.get(card).text, letter);
    }

    private static int ticksOf(Station station, Card card) {
        if (!station.kind.equals("wheel")) {
            return station.pace;
        }
        return card.text.length() + (stepsOf(card.text, station.letter) + station.pace - 1) / station.pace;
    }

    int ticksFor(int station, int card) {
        needStation(station);
        needCard(card);
        return ticksOf(now.stations.get(station), now.cards.get(card));
    }

    int now() {
        return now.time;
    }

    private int numberOfDay(int number, int lot, int what) {
        int sum = 0;
        for (Card card : cardsOf(now, lot)) {
            if (what == 0 && card.leftAt != NONE && card.leftAt / now.day == number) {
                sum++;
            }
            if (what == 1) {
                sum += (int) card.failTimes.stream().filter(time -> time / now.day == number).count();
            }
        }
        return sum;
    }

    int day(int index, int lot, int what) {
        needLot(lot);
        need(index >= 0 && what >= 0 && what <= 1);
        int number = now.time / now.day - 1 - (index < 10 ? index : now.time);
        return number < 0 || index >= 10 ? NONE : numberOfDay(number, lot, what);
    }

    int today(int lot, int what) {
        needLot(lot);
        needIn(what, 0, 1);
        return numberOfDay(now.time / now.day, lot, what);
    }

    private int fails() {
        return now.cards.stream().mapToInt(c -> c.fails).sum();
    }

    int total(int what) {
        needIn(what, 0, 4);
        return new int[] {now.fed, fails(), now.cards.stream().mapToInt(c -> c.scraps).sum(), now.steps,
            now.readyTicks}[what];
    }

    double yieldPart() {
        return now.fed == 0 ? 0.0 : (double) now.left.size() / (double) now.fed;
    }

    float meanFails() {
        return now.cards.isEmpty() ? 0.0f : (float) fails() / (float) now.cards.size();
    }

    float busyPart(int station) {
        needStation(station);
        return now.time == 0 ? 0.0f : (float) now.stations.get(station).worked / (float) now.time;
    }

    int bottleneck() {
        List<Integer> sums = new ArrayList<>();
        for (Station station : now.stations) {
            sums.add(now.cards.stream().filter(c -> !c.finished()).mapToInt(c -> ticksOf(station, c)).sum());
        }
        return sums.isEmpty() ? NONE : sums.indexOf(sums.stream().max(Integer::compare).get());
    }

    // Ticks

    private static int toFeed(State state) {
        List<Card> waiting = state.cards.stream().filter(c -> c.state.equals("waits")).collect(Collectors.toList());
        Card best = waiting.stream().filter(c -> c.rushed).findFirst()
            .or(() -> waiting.stream().filter(c -> c.fails > 0 || c.scraps > 0).findFirst())
            .or(() -> waiting.stream().min(Comparator.comparingInt(c -> -state.ranks.get(c.lot)))).orElse(null);
        return best == null ? NONE : state.cards.indexOf(best);
    }

    private static void enter(State state, int station, int card) {
        Station s = state.stations.get(station);
        Card c = state.cards.get(card);
        s.card = card;
        s.need = ticksOf(s, c);
        if (s.kind.equals("wheel")) {
            state.steps += stepsOf(c.text, s.letter);
            s.letter = c.text.charAt(c.text.length() - 1) - 'a';
        }
        c.state = "line";
        c.station = station;
        c.rushed = false;
    }

    private static void leave(State state, int card) {
        state.cards.get(card).state = "left";
        state.cards.get(card).leftAt = state.time;
        state.left.add(card);
    }

    private static void stationTick(State state, int station) {
        Station s = state.stations.get(station);
        if (s.rests > 0) {
            s.rests--;
        } else if (s.card != null && s.need > 0 && !s.stopped) {
            s.worked++;
            s.need--;
            if (s.need == 0) {
                char sign = s.script.charAt(s.used % s.script.length());
                s.used++;
                if (s.after > 0 && s.used - s.usedBeforeRest >= s.after) {
                    s.rests = s.ticks;
                    s.usedBeforeRest = s.used;
                }
                if (sign == '1') {
                    Card c = state.cards.get(s.card);
                    c.fails++;
                    c.failTimes.add(state.time);
                    c.state = c.fails >= state.tries ? "given up" : "waits";
                    c.station = NONE;
                    s.fails++;
                    s.card = null;
                }
            }
        }
        if (s.card == null || s.need > 0) {
            return;
        }
        int card = s.card;
        if (station < state.stations.size() - 1) {
            if (state.stations.get(station + 1).card == null) {
                s.card = null;
                s.wentOn++;
                enter(state, station + 1, card);
            }
            return;
        }
        Card c = state.cards.get(card);
        s.card = null;
        s.wentOn++;
        c.station = NONE;
        if (nextOf(state, c.lot) == card) {
            leave(state, card);
        } else if (inState(state, "tray") < state.tray) {
            c.state = "tray";
        } else {
            c.state = "waits";
            c.scraps++;
        }
    }

    private static void tick(State state) {
        for (int station = state.stations.size() - 1; station >= 0; station--) {
            stationTick(state, station);
        }
        if (!state.stations.isEmpty() && state.stations.get(0).card == null && !state.stations.get(0).stopped
                && state.blanks > 0 && toFeed(state) != NONE) {
            enter(state, 0, toFeed(state));
            state.blanks--;
            state.fed++;
        }
        for (int lot = 0; lot < state.ranks.size(); lot++) {
            int next = nextOf(state, lot);
            while (next != NONE && state.cards.get(next).state.equals("tray")) {
                leave(state, next);
                next = nextOf(state, lot);
            }
        }
        state.readyTicks += (int) state.stations.stream().filter(s -> s.card != null && s.need == 0).count();
        state.time++;
    }

    // Actions

    private void act() {
        past.add(now.copy());
        if (past.size() > 8) {
            past.remove(0);
        }
    }

    private boolean waits(int card) {
        return now.cards.get(card).state.equals("waits");
    }

    int giveUp(int card) {
        needCard(card);
        if (!waits(card)) {
            return WRONG_STATE;
        }
        act();
        now.cards.get(card).state = "given up";
        now.cards.get(card).rushed = false;
        return inState(now, "waits");
    }

    int setRank(int lot, int rank) {
        needLot(lot);
        needIn(rank, 0, 9);
        act();
        return now.ranks.set(lot, rank);
    }

    int refill(int blanks) {
        needIn(blanks, 1, 999);
        if (now.blanks + blanks > 9999) {
            return FULL;
        }
        act();
        now.added += blanks;
        return now.blanks += blanks;
    }

    int setPace(int station, int pace) {
        needStation(station);
        needIn(pace, 1, now.stations.get(station).kind.equals("wheel") ? 9 : 99);
        act();
        int previous = now.stations.get(station).pace;
        now.stations.get(station).pace = pace;
        return previous;
    }

    int stop(int station, boolean stopped) {
        needStation(station);
        act();
        now.stations.get(station).stopped = stopped;
        return (int) now.stations.stream().filter(s -> s.stopped).count();
    }

    int setRest(int station, int after, int ticks) {
        needStation(station);
        need(after == 0 || after >= 1 && after <= 99 && ticks >= 1 && ticks <= 99);
        act();
        int previous = now.stations.get(station).after;
        now.stations.get(station).after = after;
        now.stations.get(station).ticks = after == 0 ? 0 : ticks;
        return previous;
    }

    int rush(int card) {
        needCard(card);
        if (!waits(card)) {
            return WRONG_STATE;
        }
        act();
        now.cards.get(card).rushed = true;
        return (int) now.cards.stream().filter(c -> c.rushed).count();
    }

    int swap(int card, int other) {
        needCard(card);
        needCard(other);
        Card one = now.cards.get(card);
        Card two = now.cards.get(other);
        need(card != other && one.lot == two.lot);
        if (!waits(card) || !waits(other)) {
            return WRONG_STATE;
        }
        act();
        int place = one.place;
        one.place = two.place;
        two.place = place;
        return one.place;
    }

    int setTries(int tries) {
        needIn(tries, 1, 9);
        act();
        int previous = now.tries;
        now.tries = tries;
        return previous;
    }

    int setTray(int places) {
        needIn(places, 1, 20);
        act();
        int previous = now.tray;
        now.tray = places;
        return previous;
    }

    int run(int ticks) {
        needIn(ticks, 1, 2000);
        act();
        for (int passed = 0; passed < ticks; passed++) {
            tick(now);
        }
        return now.left.size();
    }

    int runToLeave(int most) {
        needIn(most, 1, 2000);
        act();
        int before = now.left.size();
        for (int passed = 1; passed <= most; passed++) {
            tick(now);
            if (now.left.size() > before) {
                return passed;
            }
        }
        return NONE;
    }

    // Predictions

    /** What a prediction waits for. */
    private interface Goal {
        boolean reached(State state);
    }

    private static int ticksTo(State from, Goal goal) {
        State state = from.copy();
        for (int passed = 0; passed <= 2000; passed++) {
            if (goal.reached(state)) {
                return passed;
            }
            tick(state);
        }
        return NONE;
    }

    private static State behind(State from, int ticks) {
        State state = from.copy();
        for (int passed = 0; passed < ticks; passed++) {
            tick(state);
        }
        return state;
    }

    private static int lotTicks(State from, int lot) {
        return ticksTo(from, state -> state.cards.stream().allMatch(c -> c.lot != lot || c.finished()));
    }

    private static int allTicks(State from) {
        return ticksTo(from, state -> state.cards.stream().allMatch(Card::finished));
    }

    int leavesIn(int card) {
        needCard(card);
        return ticksTo(now, state -> state.left.contains(card));
    }

    int lotIn(int lot) {
        needLot(lot);
        return lotTicks(now, lot);
    }

    int allIn() {
        return allTicks(now);
    }

    int leftIn(int ticks) {
        needIn(ticks, 1, 2000);
        return behind(now, ticks).left.size();
    }

    int failIn(int station) {
        needStation(station);
        int before = now.stations.get(station).fails;
        return ticksTo(now, state -> state.stations.get(station).fails != before);
    }

    int blanksIn(int ticks) {
        needIn(ticks, 1, 2000);
        return behind(now, ticks).blanks;
    }

    int restIn(int station) {
        needStation(station);
        return ticksTo(now, state -> state.stations.get(station).rests > 0);
    }

    int lotBy(int place) {
        int[] ticks = IntStream.range(0, now.ranks.size()).map(lot -> lotTicks(now, lot)).toArray();
        List<Integer> order = IntStream.range(0, now.ranks.size()).boxed()
            .sorted(Comparator.comparingInt(lot -> ticks[lot] == NONE ? 9999 : ticks[lot]))
            .collect(Collectors.toList());
        return at(order, place);
    }

    private static int leastAt(int[] ticks) {
        int best = Arrays.stream(ticks).filter(t -> t != NONE).min().orElse(NONE);
        for (int index = 0; index < ticks.length; index++) {
            if (best != NONE && ticks[index] == best) {
                return index;
            }
        }
        return NONE;
    }

    int bestRank(int lot) {
        needLot(lot);
        return leastAt(IntStream.rangeClosed(0, 9).map(rank -> {
            State state = now.copy();
            state.ranks.set(lot, rank);
            return lotTicks(state, lot);
        }).toArray());
    }

    int bestTray() {
        int index = leastAt(IntStream.rangeClosed(1, 20).map(places -> {
            State state = now.copy();
            state.tray = places;
            return allTicks(state);
        }).toArray());
        return index == NONE ? NONE : index + 1;
    }

    // Output, undo and snapshots

    int writeCard(int card) {
        needCard(card);
        output = now.cards.get(card).text;
        return output.length();
    }

    int outputByte(int index) {
        return index < 0 || index >= output.length() ? NONE : output.charAt(index);
    }

    int undo() {
        if (past.isEmpty()) {
            return NONE;
        }
        now = past.remove(past.size() - 1);
        return past.size();
    }

    int saveSnapshot(int slot) {
        needIn(slot, 0, 1);
        snapshots[slot] = now.copy();
        return now.time;
    }

    int restoreSnapshot(int slot) {
        needIn(slot, 0, 1);
        if (snapshots[slot] == null) {
            return NONE;
        }
        now = snapshots[slot].copy();
        past.clear();
        return now.time;
    }
}
