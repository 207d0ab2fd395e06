import java.util.Arrays;

/**
 * A line that makes cards. The document ../shared/DOC.md says what it must do.
 *
 * <p>The whole state that actions change stands in one Line, so that undo, snapshots and
 * predictions are copies of it. Copies are made once and used again.
 */
public final class CardLine {
    public static final int NONE = -1;
    public static final int FULL = -2;
    public static final int WRONG_STATE = -3;

    private static final int MOST_STATIONS = 6;
    private static final int MOST_LOTS = 6;
    private static final int MOST_CARDS = 30;
    private static final int MOST_LETTERS = 16;
    private static final int MOST_DEPTH = 3;
    private static final int MOST_SIGNS = 12;
    private static final int MOST_BYTES = 600;
    private static final int MOST_BLANKS = 9999;
    private static final int MOST_TRAY = 20;
    private static final int MOST_RANK = 9;
    private static final int MOST_TICKS = 2000;
    private static final int KEPT_DAYS = 10;
    private static final int KEPT_ACTIONS = 8;
    private static final int SLOTS = 2;
    private static final int ALPHABET = 26;

    private static final int CHIP = 0;
    private static final int STRIPE = 1;
    private static final int PRINT = 2;
    private static final int WHEEL = 3;
    private static final int LINE = 4;
    private static final int REST = 5;
    private static final int LOT = 6;
    private static final int CARD = 7;

    private static final int WAITS = 0;
    private static final int ON_LINE = 1;
    private static final int IN_TRAY = 2;
    private static final int LEFT = 3;
    private static final int GIVEN_UP = 4;
    private static final int STATES = 5;

    private static final int FED = 0;
    private static final int FAILS = 1;
    private static final int SCRAPPED = 2;
    private static final int STEPS = 3;
    private static final int READY_TICKS = 4;
    private static final int TOTALS = 5;

    private static final int OUT_OF_PLACE = 1;
    private static final int OUT_OF_RANGE = 2;
    private static final int TOO_LONG = 3;
    private static final int TOO_MANY = 4;
    private static final int ERROR_BASE = -100;

    private static final byte[] NO_BYTES = {};

    private final Line line = new Line();
    private final Line scratch = new Line();
    private final Reader reader = new Reader();
    private final byte[] output = new byte[MOST_LETTERS];
    private final Line[] past = new Line[KEPT_ACTIONS];
    private final Line[] saved = new Line[SLOTS];
    private final int[] finishTimes = new int[MOST_LOTS];
    private int outputLength = 0;
    private int errorKind = 0;
    private int errorStatement = NONE;
    private int oldestPast = 0;
    private int pastCount = 0;

    public CardLine() {
        line.begin(480, 0, 1, 1);
    }

    // Input and descriptions

    public int append(long bytes) {
        return reader.add(bytes) ? reader.length : FULL;
    }

    public int load() {
        reader.readDescription(scratch);
        keepResult();
        if (errorKind != 0) {
            return ERROR_BASE - reader.errorPlace;
        }
        line.copyFrom(scratch);
        pastCount = 0;
        outputLength = 0;
        return line.stationCount;
    }

    private void keepResult() {
        errorKind = reader.errorKind;
        errorStatement = errorKind == 0 ? NONE : reader.statement;
    }

    public int loadError() {
        return errorKind;
    }

    public int loadStatement() {
        return errorStatement;
    }

    // Looking at the line

    private void needStation(int station) {
        if (station < 0 || station >= line.stationCount) {
            throw new IndexOutOfBoundsException("no such station");
        }
    }

    private void needCard(int card) {
        if (card < 0 || card >= line.cardCount) {
            throw new IndexOutOfBoundsException("no such card");
        }
    }

    private void needLot(int lot) {
        if (lot < 0 || lot >= line.lotCount) {
            throw new IndexOutOfBoundsException("no such lot");
        }
    }

    private static void needRange(int value, int least, int most) {
        if (value < least || value > most) {
            throw new IllegalArgumentException("a number is out of range");
        }
    }

    public int count(int what) throws IllegalArgumentException {
        switch (what) {
            case 0: return line.stationCount;
            case 1: return line.lotCount;
            case 2: return line.cardCount;
            case 3: return line.blanks;
            case 4: return line.inState[WAITS];
            case 5: return line.inState[ON_LINE];
            case 6: return line.inState[IN_TRAY];
            case 7: return line.inState[LEFT];
            case 8: return line.inState[GIVEN_UP];
            case 9: return pastCount;
            default: throw new IllegalArgumentException("what is out of range");
        }
    }

    public int setting(int what) throws IllegalArgumentException {
        switch (what) {
            case 0: return line.dayLength;
            case 1: return line.trayPlaces;
            case 2: return line.tries;
            case 3: return line.blanksTold;
            case 4: return line.blanksAdded;
            default: throw new IllegalArgumentException("what is out of range");
        }
    }

    public int station(int station, int what) throws IndexOutOfBoundsException, IllegalArgumentException {
        needStation(station);
        Station asked = line.stations[station];
        switch (what) {
            case 0: return asked.kind;
            case 1: return asked.pace;
            case 2: return asked.card;
            case 3: return asked.need;
            case 4: return asked.signsUsed;
            case 5: return asked.fails;
            case 6: return asked.wentOn;
            case 7: return asked.stopped ? 1 : 0;
            case 8: return asked.kind == WHEEL ? asked.wheelLetter : NONE;
            case 9: return asked.restAfter;
            case 10: return asked.restTicks;
            case 11: return asked.restLeft;
            case 12: return asked.worked;
            default: throw new IllegalArgumentException("what is out of range");
        }
    }

    public int card(int card, int what) throws IndexOutOfBoundsException, IllegalArgumentException {
        needCard(card);
        Card asked = line.cards[card];
        switch (what) {
            case 0: return asked.lot;
            case 1: return asked.place;
            case 2: return asked.text.length;
            case 3: return asked.state;
            case 4: return asked.station;
            case 5: return asked.fails;
            case 6: return asked.scraps;
            case 7: return asked.leftTime;
            default: throw new IllegalArgumentException("what is out of range");
        }
    }

    public int letter(int card, int place) throws IndexOutOfBoundsException {
        needCard(card);
        byte[] text = line.cards[card].text;
        return place >= 0 && place < text.length ? text[place] : NONE;
    }

    public int lot(int lot, int what) throws IndexOutOfBoundsException, IllegalArgumentException {
        needLot(lot);
        Lot asked = line.lots[lot];
        switch (what) {
            case 0: return asked.rank;
            case 1: return asked.size;
            case 2: return asked.left;
            case 3: return asked.givenUp;
            case 4: return asked.fails;
            case 5: return asked.scraps;
            case 6: return asked.nextCard();
            default: throw new IllegalArgumentException("what is out of range");
        }
    }

    public int cardOf(int lot, int place) throws IndexOutOfBoundsException {
        needLot(lot);
        return line.lots[lot].cardAt(place);
    }

    public int trayAt(int index) {
        int before = 0;
        for (int card = 0; card < line.cardCount; card++) {
            if (line.cards[card].state == IN_TRAY) {
                if (before == index) {
                    return card;
                }
                before++;
            }
        }
        return NONE;
    }

    public int leftAt(int index) {
        return index >= 0 && index < line.inState[LEFT] ? line.leftCards[index] : NONE;
    }

    public int nextFed() {
        return line.nextWaiting();
    }

    public int steps(int card, int letter) throws IndexOutOfBoundsException, IllegalArgumentException {
        needCard(card);
        needRange(letter, 0, ALPHABET - 1);
        return stepsOf(line.cards[card].text, letter);
    }

    public int ticksFor(int station, int card) throws IndexOutOfBoundsException {
        needStation(station);
        needCard(card);
        return line.stations[station].ticksOf(line.cards[card].text);
    }

    /** The steps that a wheel turns from a letter through a text, each time the shorter way. */
    private static int stepsOf(byte[] text, int from) {
        int turned = 0;
        int stands = from;
        for (int place = 0; place < text.length; place++) {
            int apart = text[place] < stands ? stands - text[place] : text[place] - stands;
            turned += apart > ALPHABET - apart ? ALPHABET - apart : apart;
            stands = text[place];
        }
        return turned;
    }

    // Time, days and totals

    public int now() {
        return line.time;
    }

    public int day(int index, int lot, int what) throws IndexOutOfBoundsException, IllegalArgumentException {
        needLot(lot);
        if (index < 0 || what < 0 || what > 1) {
            throw new IllegalArgumentException("index or what is out of range");
        }
        int over = line.daysOver();
        if (index >= KEPT_DAYS || index >= over) {
            return NONE;
        }
        int slot = (over - 1 - index) % KEPT_DAYS;
        return what == 0 ? line.lots[lot].dayLeft[slot] : line.lots[lot].dayFails[slot];
    }

    public int today(int lot, int what) throws IndexOutOfBoundsException, IllegalArgumentException {
        needLot(lot);
        needRange(what, 0, 1);
        return what == 0 ? line.lots[lot].todayLeft : line.lots[lot].todayFails;
    }

    public int total(int what) throws IllegalArgumentException {
        needRange(what, 0, TOTALS - 1);
        return line.totals[what];
    }

    public double yieldPart() {
        int fed = line.totals[FED];
        return fed == 0 ? 0.0 : (double) line.inState[LEFT] / (double) fed;
    }

    public float meanFails() {
        int cards = line.cardCount;
        return cards == 0 ? 0.0f : (float) line.totals[FAILS] / (float) cards;
    }

    public float busyPart(int station) throws IndexOutOfBoundsException {
        needStation(station);
        int time = line.time;
        return time == 0 ? 0.0f : (float) line.stations[station].worked / (float) time;
    }

    public int bottleneck() {
        int slowest = NONE;
        int most = -1;
        for (int station = 0; station < line.stationCount; station++) {
            int sum = line.ticksToCome(station);
            if (sum > most) {
                most = sum;
                slowest = station;
            }
        }
        return slowest;
    }

    // Actions

    /** Keeps the line as it is, so that the action that follows can be taken back. */
    private void remember() {
        if (pastCount == KEPT_ACTIONS) {
            oldestPast = (oldestPast + 1) % KEPT_ACTIONS;
            pastCount--;
        }
        int slot = (oldestPast + pastCount) % KEPT_ACTIONS;
        if (past[slot] == null) {
            past[slot] = new Line();
        }
        past[slot].copyFrom(line);
        pastCount++;
    }

    private boolean waits(int card) {
        return line.cards[card].state == WAITS;
    }

    public int order(int lot) throws IndexOutOfBoundsException {
        needLot(lot);
        reader.readOrder(line.cardCount);
        keepResult();
        if (errorKind != 0) {
            return ERROR_BASE - reader.errorPlace;
        }
        remember();
        line.addCard(lot, reader.textRead());
        return line.cardCount - 1;
    }

    public int giveUp(int card) throws IndexOutOfBoundsException {
        needCard(card);
        if (!waits(card)) {
            return WRONG_STATE;
        }
        remember();
        line.abandon(card);
        return line.inState[WAITS];
    }

    public int setRank(int lot, int rank) throws IndexOutOfBoundsException, IllegalArgumentException {
        needLot(lot);
        needRange(rank, 0, MOST_RANK);
        remember();
        int previous = line.lots[lot].rank;
        line.lots[lot].rank = rank;
        return previous;
    }

    public int refill(int blanks) throws IllegalArgumentException {
        needRange(blanks, 1, 999);
        if (line.blanks + blanks > MOST_BLANKS) {
            return FULL;
        }
        remember();
        line.blanks += blanks;
        line.blanksAdded += blanks;
        return line.blanks;
    }

    public int setPace(int station, int pace) throws IndexOutOfBoundsException, IllegalArgumentException {
        needStation(station);
        Station changed = line.stations[station];
        needRange(pace, 1, mostPace(changed.kind));
        remember();
        int previous = changed.pace;
        changed.pace = pace;
        return previous;
    }

    private static int mostPace(int kind) {
        return kind == WHEEL ? 9 : 99;
    }

    public int stop(int station, boolean stopped) throws IndexOutOfBoundsException {
        needStation(station);
        remember();
        line.stations[station].stopped = stopped;
        int count = 0;
        for (int other = 0; other < line.stationCount; other++) {
            if (line.stations[other].stopped) {
                count++;
            }
        }
        return count;
    }

    public int setRest(int station, int after, int ticks) throws IndexOutOfBoundsException, IllegalArgumentException {
        needStation(station);
        needRange(after, 0, 99);
        if (after > 0) {
            needRange(ticks, 1, 99);
        }
        remember();
        Station changed = line.stations[station];
        int previous = changed.restAfter;
        changed.restAfter = after;
        changed.restTicks = after > 0 ? ticks : 0;
        return previous;
    }

    public int rush(int card) throws IndexOutOfBoundsException {
        needCard(card);
        if (!waits(card)) {
            return WRONG_STATE;
        }
        remember();
        line.cards[card].rushed = true;
        int count = 0;
        for (int other = 0; other < line.cardCount; other++) {
            if (line.cards[other].rushed) {
                count++;
            }
        }
        return count;
    }

    public int swap(int card, int other) throws IndexOutOfBoundsException, IllegalArgumentException {
        needCard(card);
        needCard(other);
        if (card == other || line.cards[card].lot != line.cards[other].lot) {
            throw new IllegalArgumentException("not two cards of one lot");
        }
        if (!waits(card) || !waits(other)) {
            return WRONG_STATE;
        }
        remember();
        int place = line.cards[other].place;
        line.putAt(other, line.cards[card].place);
        line.putAt(card, place);
        return place;
    }

    public int setTries(int tries) throws IllegalArgumentException {
        needRange(tries, 1, 9);
        remember();
        int previous = line.tries;
        line.tries = tries;
        return previous;
    }

    public int setTray(int places) throws IllegalArgumentException {
        needRange(places, 1, MOST_TRAY);
        remember();
        int previous = line.trayPlaces;
        line.trayPlaces = places;
        return previous;
    }

    public int run(int ticks) throws IllegalArgumentException {
        needRange(ticks, 1, MOST_TICKS);
        remember();
        for (int passed = 0; passed < ticks; passed++) {
            line.tick();
        }
        return line.inState[LEFT];
    }

    public int runToLeave(int most) throws IllegalArgumentException {
        needRange(most, 1, MOST_TICKS);
        remember();
        int before = line.inState[LEFT];
        for (int passed = 1; passed <= most; passed++) {
            line.tick();
            if (line.inState[LEFT] > before) {
                return passed;
            }
        }
        return NONE;
    }

    // Predictions: they all run on a copy of the line

    private Line copyOfLine() {
        scratch.copyFrom(line);
        return scratch;
    }

    /** Behind how many ticks of a copy an event will have happened; NONE if not within a limit. */
    private static int ticksUntil(Line copy, Event event, int which, int limit) {
        for (int passed = 0; passed <= limit; passed++) {
            if (copy.hasHappened(event, which)) {
                return passed;
            }
            // The tick behind the limit would be in vain, and so is each one behind a still one.
            if (passed == limit || !copy.tick()) {
                return NONE;
            }
        }
        return NONE;
    }

    private Line copyBehind(int ticks) {
        Line copy = copyOfLine();
        boolean moves = true;
        for (int passed = 0; passed < ticks && moves; passed++) {
            moves = copy.tick();
        }
        return copy;
    }

    public int leavesIn(int card) throws IndexOutOfBoundsException {
        needCard(card);
        return ticksUntil(copyOfLine(), Event.CARD_LEFT, card, MOST_TICKS);
    }

    public int lotIn(int lot) throws IndexOutOfBoundsException {
        needLot(lot);
        return ticksUntil(copyOfLine(), Event.LOT_FINISHED, lot, MOST_TICKS);
    }

    public int allIn() {
        return ticksUntil(copyOfLine(), Event.ALL_FINISHED, NONE, MOST_TICKS);
    }

    public int leftIn(int ticks) throws IllegalArgumentException {
        needRange(ticks, 1, MOST_TICKS);
        return copyBehind(ticks).inState[LEFT];
    }

    public int failIn(int station) throws IndexOutOfBoundsException {
        needStation(station);
        Line copy = copyOfLine();
        copy.stations[station].fails = 0;
        return ticksUntil(copy, Event.STATION_FAILED, station, MOST_TICKS);
    }

    public int blanksIn(int ticks) throws IllegalArgumentException {
        needRange(ticks, 1, MOST_TICKS);
        return copyBehind(ticks).blanks;
    }

    public int restIn(int station) throws IndexOutOfBoundsException {
        needStation(station);
        return ticksUntil(copyOfLine(), Event.STATION_RESTS, station, MOST_TICKS);
    }

    public int lotBy(int place) {
        if (place < 0 || place >= line.lotCount) {
            return NONE;
        }
        for (int lot = 0; lot < line.lotCount; lot++) {
            int ticks = ticksUntil(copyOfLine(), Event.LOT_FINISHED, lot, MOST_TICKS);
            finishTimes[lot] = ticks == NONE ? MOST_TICKS + 1 : ticks;
        }
        for (int lot = 0; lot < line.lotCount; lot++) {
            if (lotsFinishedBefore(lot) == place) {
                return lot;
            }
        }
        return NONE;
    }

    private int lotsFinishedBefore(int lot) {
        int before = 0;
        for (int other = 0; other < line.lotCount; other++) {
            boolean earlier = finishTimes[other] < finishTimes[lot];
            if (earlier || (finishTimes[other] == finishTimes[lot] && other < lot)) {
                before++;
            }
        }
        return before;
    }

    public int bestRank(int lot) throws IndexOutOfBoundsException {
        needLot(lot);
        int best = NONE;
        int limit = MOST_TICKS;
        for (int rank = 0; rank <= MOST_RANK && limit >= 0; rank++) {
            Line copy = copyOfLine();
            copy.lots[lot].rank = rank;
            int ticks = ticksUntil(copy, Event.LOT_FINISHED, lot, limit);
            if (ticks != NONE) {
                best = rank;
                // Only a lesser number of ticks makes a greater rank better.
                limit = ticks - 1;
            }
        }
        return best;
    }

    public int bestTray() {
        int best = NONE;
        int limit = MOST_TICKS;
        for (int places = 1; places <= MOST_TRAY && limit >= 0; places++) {
            Line copy = copyOfLine();
            copy.trayPlaces = places;
            int ticks = ticksUntil(copy, Event.ALL_FINISHED, NONE, limit);
            if (ticks != NONE) {
                best = places;
                // Only a lesser number of ticks makes a greater tray better.
                limit = ticks - 1;
            }
        }
        return best;
    }

    // Output, undo and snapshots

    public int writeCard(int card) throws IndexOutOfBoundsException {
        needCard(card);
        byte[] text = line.cards[card].text;
        outputLength = Math.min(text.length, output.length);
        for (int place = 0; place < outputLength; place++) {
            output[place] = (byte) ('a' + text[place]);
        }
        return outputLength;
    }

    public int outputByte(int index) {
        return index >= 0 && index < outputLength ? output[index] : NONE;
    }

    public int undo() {
        if (pastCount == 0) {
            return NONE;
        }
        pastCount--;
        Line latest = past[(oldestPast + pastCount) % KEPT_ACTIONS];
        if (latest != null) {
            line.copyFrom(latest);
        }
        return pastCount;
    }

    public int saveSnapshot(int slot) throws IllegalArgumentException {
        needRange(slot, 0, SLOTS - 1);
        if (saved[slot] == null) {
            saved[slot] = new Line();
        }
        saved[slot].copyFrom(line);
        return line.time;
    }

    public int restoreSnapshot(int slot) throws IllegalArgumentException {
        needRange(slot, 0, SLOTS - 1);
        if (saved[slot] == null) {
            return NONE;
        }
        line.copyFrom(saved[slot]);
        pastCount = 0;
        return line.time;
    }

    /** What a prediction waits for. */
    private enum Event {
        CARD_LEFT, LOT_FINISHED, ALL_FINISHED, STATION_FAILED, STATION_RESTS
    }

    /** A station of the line. */
    private static final class Station {
        int kind;
        int pace;
        byte[] script = NO_BYTES;
        int card;
        int need;
        int signsUsed;
        int signsSinceRest;
        int fails;
        int wentOn;
        boolean stopped;
        int wheelLetter;
        int restAfter;
        int restTicks;
        int restLeft;
        int worked;

        void begin(int newKind, int newPace, byte[] newScript) {
            kind = newKind;
            pace = newPace;
            script = newScript;
            card = NONE;
            need = 0;
            signsUsed = 0;
            signsSinceRest = 0;
            fails = 0;
            wentOn = 0;
            stopped = false;
            wheelLetter = 0;
            restAfter = 0;
            restTicks = 0;
            restLeft = 0;
            worked = 0;
        }

        void copyFrom(Station other) {
            kind = other.kind;
            pace = other.pace;
            script = other.script;
            card = other.card;
            need = other.need;
            signsUsed = other.signsUsed;
            signsSinceRest = other.signsSinceRest;
            fails = other.fails;
            wentOn = other.wentOn;
            stopped = other.stopped;
            wheelLetter = other.wheelLetter;
            restAfter = other.restAfter;
            restTicks = other.restTicks;
            restLeft = other.restLeft;
            worked = other.worked;
        }

        boolean hasReadyCard() {
            return card != NONE && need == 0;
        }

        /** The steps that its wheel turns for a text; 0 if it is no wheel. */
        int turnsOf(byte[] text) {
            return kind == WHEEL ? stepsOf(text, wheelLetter) : 0;
        }

        private int ticksWith(byte[] text, int turns) {
            if (kind != WHEEL || pace < 1) {
                return pace;
            }
            return text.length + (turns + pace - 1) / pace;
        }

        int ticksOf(byte[] text) {
            return ticksWith(text, turnsOf(text));
        }

        void takeIn(int number, byte[] text, int turns) {
            need = ticksWith(text, turns);
            if (kind == WHEEL && text.length > 0) {
                wheelLetter = text[text.length - 1];
            }
            card = number;
        }

        void letFail() {
            card = NONE;
            fails++;
        }

        void letGoOn() {
            card = NONE;
            wentOn++;
        }

        /** Uses the next sign of the script; true if the card fails. */
        boolean useSign() {
            boolean failing = script.length > 0 && script[signsUsed % script.length] == '1';
            signsUsed++;
            signsSinceRest++;
            if (restAfter > 0 && signsSinceRest >= restAfter) {
                restLeft = restTicks;
                signsSinceRest = 0;
            }
            return failing;
        }
    }

    /** A card; its text is never changed, so copies share it. */
    private static final class Card {
        int lot;
        int place;
        byte[] text = NO_BYTES;
        int state;
        int station;
        int fails;
        int scraps;
        int leftTime;
        boolean rushed;

        void begin(int newLot, int newPlace, byte[] newText) {
            lot = newLot;
            place = newPlace;
            text = newText;
            state = WAITS;
            station = NONE;
            fails = 0;
            scraps = 0;
            leftTime = NONE;
            rushed = false;
        }

        void copyFrom(Card other) {
            lot = other.lot;
            place = other.place;
            text = other.text;
            state = other.state;
            station = other.station;
            fails = other.fails;
            scraps = other.scraps;
            leftTime = other.leftTime;
            rushed = other.rushed;
        }

        boolean isFinished() {
            return state == LEFT || state == GIVEN_UP;
        }
    }

    /** A lot, with its cards in the order of their places and its numbers of the kept days. */
    private static final class Lot {
        int rank;
        int size;
        final int[] byPlace = new int[MOST_CARDS];
        int nextPlace;
        int left;
        int givenUp;
        int fails;
        int scraps;
        int todayLeft;
        int todayFails;
        final int[] dayLeft = new int[KEPT_DAYS];
        final int[] dayFails = new int[KEPT_DAYS];

        void begin(int newRank) {
            rank = newRank;
            size = 0;
            nextPlace = 0;
            left = 0;
            givenUp = 0;
            fails = 0;
            scraps = 0;
            todayLeft = 0;
            todayFails = 0;
        }

        void copyFrom(Lot other) {
            rank = other.rank;
            size = other.size;
            System.arraycopy(other.byPlace, 0, byPlace, 0, MOST_CARDS);
            nextPlace = other.nextPlace;
            left = other.left;
            givenUp = other.givenUp;
            fails = other.fails;
            scraps = other.scraps;
            todayLeft = other.todayLeft;
            todayFails = other.todayFails;
            System.arraycopy(other.dayLeft, 0, dayLeft, 0, KEPT_DAYS);
            System.arraycopy(other.dayFails, 0, dayFails, 0, KEPT_DAYS);
        }

        int cardAt(int place) {
            return place >= 0 && place < size ? byPlace[place] : NONE;
        }

        int nextCard() {
            return cardAt(nextPlace);
        }

        boolean isFinished() {
            return left + givenUp == size;
        }

        void endDay(int slot) {
            dayLeft[slot] = todayLeft;
            dayFails[slot] = todayFails;
            todayLeft = 0;
            todayFails = 0;
        }
    }

    /** Everything that actions change. */
    private static final class Line {
        int dayLength = 1;
        int trayPlaces;
        int tries;
        int blanksTold;
        int blanksAdded;
        int blanks;
        int time;
        int stationCount;
        int lotCount;
        int cardCount;
        final Station[] stations = new Station[MOST_STATIONS];
        final Lot[] lots = new Lot[MOST_LOTS];
        final Card[] cards = new Card[MOST_CARDS];
        final int[] inState = new int[STATES];
        final int[] leftCards = new int[MOST_CARDS];
        final int[] totals = new int[TOTALS];
        private boolean moved;

        Line() {
            for (int station = 0; station < MOST_STATIONS; station++) {
                stations[station] = new Station();
            }
            for (int lot = 0; lot < MOST_LOTS; lot++) {
                lots[lot] = new Lot();
            }
            for (int card = 0; card < MOST_CARDS; card++) {
                cards[card] = new Card();
            }
        }

        void begin(int newDayLength, int newBlanks, int newTrayPlaces, int newTries) {
            dayLength = newDayLength;
            blanksTold = newBlanks;
            blanksAdded = 0;
            blanks = newBlanks;
            trayPlaces = newTrayPlaces;
            tries = newTries;
            time = 0;
            stationCount = 0;
            lotCount = 0;
            cardCount = 0;
            Arrays.fill(inState, 0);
            Arrays.fill(totals, 0);
        }

        void copyFrom(Line other) {
            dayLength = other.dayLength;
            trayPlaces = other.trayPlaces;
            tries = other.tries;
            blanksTold = other.blanksTold;
            blanksAdded = other.blanksAdded;
            blanks = other.blanks;
            time = other.time;
            stationCount = other.stationCount;
            lotCount = other.lotCount;
            cardCount = other.cardCount;
            for (int station = 0; station < stationCount; station++) {
                stations[station].copyFrom(other.stations[station]);
            }
            for (int lot = 0; lot < lotCount; lot++) {
                lots[lot].copyFrom(other.lots[lot]);
            }
            for (int card = 0; card < cardCount; card++) {
                cards[card].copyFrom(other.cards[card]);
            }
            System.arraycopy(other.inState, 0, inState, 0, STATES);
            System.arraycopy(other.leftCards, 0, leftCards, 0, MOST_CARDS);
            System.arraycopy(other.totals, 0, totals, 0, TOTALS);
        }

        // Describing the line; the callers have looked whether there is room

        void addStation(int kind, int pace, byte[] script) {
            if (stationCount < MOST_STATIONS) {
                stations[stationCount].begin(kind, pace, script);
                stationCount++;
            }
        }

        void addLot(int rank) {
            if (lotCount < MOST_LOTS) {
                lots[lotCount].begin(rank);
                lotCount++;
            }
        }

        void addCard(int lot, byte[] text) {
            if (cardCount < MOST_CARDS) {
                cards[cardCount].begin(lot, lots[lot].size, text);
                lots[lot].byPlace[lots[lot].size] = cardCount;
                lots[lot].size++;
                inState[WAITS]++;
                cardCount++;
            }
        }

        void putAt(int number, int place) {
            cards[number].place = place;
            lots[cards[number].lot].byPlace[place] = number;
        }

        // A tick

        /**
         * Lets a tick pass. Answers false if nothing but the time went on: as nothing depends on
         * the time but the end of the day, nothing else will happen in any later tick either.
         */
        boolean tick() {
            moved = false;
            for (int number = stationCount - 1; number >= 0; number--) {
                Station station = stations[number];
                if (restOrWork(station)) {
                    failCardIn(station);
                } else if (station.hasReadyCard() && number == stationCount - 1) {
                    comeOut(station);
                } else if (station.hasReadyCard() && stations[number + 1].card == NONE) {
                    goOn(station, number + 1);
                }
            }
            feed();
            emptyTray();
            countReadyCards();
            passTime();
            return moved;
        }

        /** Lets a station rest or work; true if its card fails thereby. */
        private boolean restOrWork(Station station) {
            if (station.restLeft > 0) {
                station.restLeft--;
                moved = true;
                return false;
            }
            if (station.card == NONE || station.need == 0 || station.stopped) {
                return false;
            }
            station.worked++;
            station.need--;
            moved = true;
            return station.need == 0 && station.useSign();
        }

        private void failCardIn(Station station) {
            int number = station.card;
            Card card = cards[number];
            station.letFail();
            totals[FAILS]++;
            lots[card.lot].fails++;
            lots[card.lot].todayFails++;
            card.fails++;
            if (card.fails >= tries) {
                abandon(number);
            } else {
                changeState(card, WAITS);
            }
        }

        private void goOn(Station station, int to) {
            int number = station.card;
            station.letGoOn();
            enter(number, to);
            moved = true;
        }

        /** The ready card of the last station comes out of the line. */
        private void comeOut(Station station) {
            int number = station.card;
            Card card = cards[number];
            station.letGoOn();
            moved = true;
            if (lots[card.lot].nextCard() == number) {
                leave(number);
            } else if (inState[IN_TRAY] < trayPlaces) {
                changeState(card, IN_TRAY);
            } else {
                card.scraps++;
                lots[card.lot].scraps++;
                totals[SCRAPPED]++;
                changeState(card, WAITS);
            }
        }

        private void feed() {
            if (stationCount == 0 || blanks <= 0 || stations[0].card != NONE || stations[0].stopped) {
                return;
            }
            int number = nextWaiting();
            if (number != NONE) {
                blanks--;
                totals[FED]++;
                cards[number].rushed = false;
                enter(number, 0);
                moved = true;
            }
        }

        /** The card that is to be fed next; NONE if none waits. */
        int nextWaiting() {
            int remade = NONE;
            int fresh = NONE;
            int freshRank = NONE;
            for (int number = 0; number < cardCount; number++) {
                Card card = cards[number];
                if (card.state == WAITS) {
                    if (card.rushed) {
                        return number;
                    }
                    if (remade == NONE && card.fails + card.scraps > 0) {
                        remade = number;
                    }
                    if (lots[card.lot].rank > freshRank) {
                        fresh = number;
                        freshRank = lots[card.lot].rank;
                    }
                }
            }
            return remade != NONE ? remade : fresh;
        }

        private void emptyTray() {
            for (int lot = 0; lot < lotCount && inState[IN_TRAY] > 0; lot++) {
                int next = lots[lot].nextCard();
                for (int gone = 0; gone < MOST_CARDS && next != NONE && cards[next].state == IN_TRAY; gone++) {
                    leave(next);
                    moved = true;
                    next = lots[lot].nextCard();
                }
            }
        }

        private void countReadyCards() {
            for (int number = 0; number < stationCount; number++) {
                if (stations[number].hasReadyCard()) {
                    totals[READY_TICKS]++;
                }
            }
        }

        private void passTime() {
            time++;
            if (dayLength > 0 && time % dayLength == 0) {
                int slot = (daysOver() - 1) % KEPT_DAYS;
                for (int lot = 0; lot < lotCount && slot >= 0; lot++) {
                    lots[lot].endDay(slot);
                }
            }
        }

        int daysOver() {
            return dayLength > 0 ? time / dayLength : 0;
        }

        // Cards on their way

        private void enter(int number, int stationNumber) {
            Card card = cards[number];
            Station station = stations[stationNumber];
            int turns = station.turnsOf(card.text);
            totals[STEPS] += turns;
            station.takeIn(number, card.text, turns);
            changeState(card, ON_LINE);
            card.station = stationNumber;
        }

        private void leave(int number) {
            Card card = cards[number];
            leftCards[inState[LEFT]] = number;
            card.leftTime = time;
            changeState(card, LEFT);
            lots[card.lot].left++;
            lots[card.lot].todayLeft++;
            findNextCard(lots[card.lot]);
        }

        void abandon(int number) {
            Card card = cards[number];
            card.rushed = false;
            changeState(card, GIVEN_UP);
            lots[card.lot].givenUp++;
            findNextCard(lots[card.lot]);
        }

        private void changeState(Card card, int state) {
            inState[card.state]--;
            inState[state]++;
            card.state = state;
            card.station = NONE;
        }

        private void findNextCard(Lot lot) {
            while (lot.nextPlace < lot.size && cards[lot.byPlace[lot.nextPlace]].isFinished()) {
                lot.nextPlace++;
            }
        }

        // Questions

        int ticksToCome(int station) {
            int sum = 0;
            for (int number = 0; number < cardCount; number++) {
                if (!cards[number].isFinished()) {
                    sum += stations[station].ticksOf(cards[number].text);
                }
            }
            return sum;
        }

        boolean hasHappened(Event event, int which) {
            switch (event) {
                case CARD_LEFT: return cards[which].state == LEFT;
                case LOT_FINISHED: return lots[which].isFinished();
                case ALL_FINISHED: return inState[LEFT] + inState[GIVEN_UP] == cardCount;
                case STATION_FAILED: return stations[which].fails > 0;
                default: return stations[which].restLeft > 0;
            }
        }
    }

    /**
     * The input buffer and what reads it. Once an error is found, what is read behind it counts
     * no more.
     */
    private static final class Reader {
        private static final int GREATEST_READ = 1000000;

        private final byte[] text = new byte[MOST_BYTES];
        int length;
        private int at;
        int errorKind;
        int errorPlace;
        int statement;
        // The rows of pieces that are open, from the TEXT to the innermost group, stand one behind
        // another in letters; a closed group has become letters of the row around it.
        private final byte[] letters = new byte[(MOST_DEPTH + 1) * MOST_LETTERS];
        private final int[] rowStart = new int[MOST_DEPTH + 1];
        private final int[] rowTimes = new int[MOST_DEPTH + 1];
        private int letterCount;
        private int depth;

        /** Adds the bytes of a number to the buffer, unless that would exceed it. */
        boolean add(long bytes) {
            int newLength = length;
            for (int shift = 56; shift >= 0; shift -= 8) {
                if ((byte) (bytes >>> shift) != 0) {
                    newLength++;
                }
            }
            if (newLength > MOST_BYTES) {
                return false;
            }
            for (int shift = 56; shift >= 0; shift -= 8) {
                byte next = (byte) (bytes >>> shift);
                if (next != 0 && length < MOST_BYTES) {
                    text[length] = next;
                    length++;
                }
            }
            return true;
        }

        private void start() {
            at = 0;
            errorKind = 0;
            errorPlace = 0;
            statement = 0;
        }

        private boolean isFine() {
            return errorKind == 0;
        }

        private void error(int kind, int place) {
            if (errorKind == 0) {
                errorKind = kind;
                errorPlace = place;
            }
        }

        // Statements

        /** Reads the buffer as a description into a draft, and empties it. */
        void readDescription(Line draft) {
            start();
            boolean more = true;
            while (more && statement <= MOST_BYTES) {
                readStatement(draft);
                more = readSemicolon();
                if (more) {
                    statement++;
                }
            }
            length = 0;
        }

        private boolean readSemicolon() {
            skipSpaces();
            if (!isFine() || at >= length) {
                return false;
            }
            if (text[at] != ';') {
                error(OUT_OF_PLACE, at);
                return false;
            }
            at++;
            return true;
        }

        private void readStatement(Line draft) {
            int start = skipSpaces();
            int word = readWord();
            if (word == NONE || (word == LINE) != (statement == 0)) {
                error(OUT_OF_PLACE, start);
                return;
            }
            switch (word) {
                case LINE: readLine(draft); break;
                case REST: readRest(draft); break;
                case LOT: readLot(draft, start); break;
                case CARD: readCard(draft, start); break;
                default: readStation(draft, word, start); break;
            }
        }

        private void readLine(Line draft) {
            int day = readNumber(1, 2000);
            int blanks = readNumber(0, 999);
            int tray = readNumber(1, MOST_TRAY);
            int tries = readNumber(1, 9);
            if (isFine()) {
                draft.begin(day, blanks, tray, tries);
            }
        }

        private void readStation(Line draft, int kind, int start) {
            if (draft.stationCount >= MOST_STATIONS) {
                error(TOO_MANY, start);
                return;
            }
            int pace = readNumber(1, mostPace(kind));
            byte[] script = readScript();
            if (isFine()) {
                draft.addStation(kind, pace, script);
            }
        }

        private void readRest(Line draft) {
            int station = readNumber(0, draft.stationCount - 1);
            int after = readNumber(1, 99);
            int ticks = readNumber(1, 99);
            if (isFine()) {
                draft.stations[station].restAfter = after;
                draft.stations[station].restTicks = ticks;
            }
        }

        private void readLot(Line draft, int start) {
            if (draft.lotCount >= MOST_LOTS) {
                error(TOO_MANY, start);
                return;
            }
            int rank = readNumber(0, MOST_RANK);
            if (isFine()) {
                draft.addLot(rank);
            }
        }

        private void readCard(Line draft, int start) {
            if (draft.cardCount >= MOST_CARDS) {
                error(TOO_MANY, start);
                return;
            }
            int lot = readNumber(0, draft.lotCount - 1);
            if (isFine()) {
                readText();
            }
            if (isFine()) {
                draft.addCard(lot, textRead());
            }
        }

        // Words, numbers and signs

        private int skipSpaces() {
            while (at < length && text[at] == ' ') {
                at++;
            }
            return at;
        }

        private static boolean isLetter(byte sign) {
            return sign >= 'a' && sign <= 'z';
        }

        private static boolean isDigit(byte sign) {
            return sign >= '0' && sign <= '9';
        }

        /** The word that stands here; NONE if it is none of those that begin a statement. */
        private int readWord() {
            int start = at;
            while (at < length && isLetter(text[at])) {
                at++;
            }
            if (stands("chip", start)) {
                return CHIP;
            }
            if (stands("stripe", start)) {
                return STRIPE;
            }
            if (stands("print", start)) {
                return PRINT;
            }
            if (stands("wheel", start)) {
                return WHEEL;
            }
            if (stands("rest", start)) {
                return REST;
            }
            if (stands("lot", start)) {
                return LOT;
            }
            if (stands("card", start)) {
                return CARD;
            }
            return stands("line", start) ? LINE : NONE;
        }

        /** Whether what was read from start on is a word. */
        private boolean stands(String word, int start) {
            if (at - start != word.length()) {
                return false;
            }
            for (int place = 0; place < word.length(); place++) {
                if (text[start + place] != word.charAt(place)) {
                    return false;
                }
            }
            return true;
        }

        private int readNumber(int least, int most) {
            int start = skipSpaces();
            int value = 0;
            while (at < length && isDigit(text[at])) {
                value = Math.min(value * 10 + text[at] - '0', GREATEST_READ);
                at++;
            }
            if (at == start) {
                error(OUT_OF_PLACE, start);
            } else if (value < least || value > most) {
                error(OUT_OF_RANGE, start);
            }
            return value;
        }

        private byte[] readScript() {
            int start = skipSpaces();
            boolean binary = true;
            while (at < length && isDigit(text[at])) {
                binary = binary && text[at] <= '1';
                at++;
            }
            if (at == start) {
                error(OUT_OF_PLACE, start);
            } else if (!binary || at - start > MOST_SIGNS) {
                error(OUT_OF_RANGE, start);
            }
            return isFine() ? Arrays.copyOfRange(text, start, at) : NO_BYTES;
        }

        // Texts of cards

        /** Reads the buffer as one TEXT, and empties it. */
        void readOrder(int cardCount) {
            start();
            readText();
            if (at < length) {
                error(OUT_OF_PLACE, at);
            }
            if (cardCount >= MOST_CARDS) {
                error(TOO_MANY, length);
            }
            length = 0;
        }

        byte[] textRead() {
            return Arrays.copyOf(letters, letterCount);
        }

        /** Reads a TEXT up to a semicolon or the end. */
        private void readText() {
            letterCount = 0;
            depth = 0;
            int from = skipSpaces();
            // Each piece, or each half of a group, has at least one byte.
            for (int piece = from; piece < length && isFine() && at < length && text[at] != ';'; piece++) {
                byte sign = text[at];
                if (isLetter(sign)) {
                    readLetter(sign);
                } else if (isDigit(sign)) {
                    int start = at;
                    openGroup(readNumber(2, 9), start);
                } else if (sign == ')') {
                    closeGroup();
                } else {
                    error(OUT_OF_PLACE, at);
                }
                skipSpaces();
            }
            if (depth > 0 || letterCount == 0) {
                error(OUT_OF_PLACE, at);
            }
        }

        private int rowLength(int row) {
            int end = row == depth ? letterCount : rowStart[row + 1];
            return end - rowStart[row];
        }

        private void readLetter(byte sign) {
            if (rowLength(depth) >= MOST_LETTERS) {
                error(TOO_LONG, at);
                return;
            }
            letters[letterCount] = (byte) (sign - 'a');
            letterCount++;
            at++;
        }

        private void openGroup(int times, int start) {
            if (depth >= MOST_DEPTH) {
                error(TOO_LONG, start);
            }
            skipSpaces();
            if (at >= length || text[at] != '(') {
                error(OUT_OF_PLACE, at);
            }
            if (isFine()) {
                at++;
                depth++;
                rowStart[depth] = letterCount;
                rowTimes[depth] = times;
            }
        }

        private void closeGroup() {
            if (depth == 0 || rowLength(depth) == 0) {
                error(OUT_OF_PLACE, at);
                return;
            }
            int inner = rowLength(depth);
            int times = rowTimes[depth];
            if (rowLength(depth - 1) + times * inner > MOST_LETTERS) {
                error(TOO_LONG, at);
                return;
            }
            for (int copy = 1; copy < times; copy++) {
                System.arraycopy(letters, rowStart[depth], letters, letterCount, inner);
                letterCount += inner;
            }
            depth--;
            at++;
        }
    }
}
