import java.util.NoSuchElementException;

/**
 * A ledger of chores in a household that employs goblins: chores are contracted for crumbs, done
 * night by night with brooms, paid once, and advances grow by interest.
 */
public final class GoblinHousehold {
    private static final int ROOMS = 6;
    private static final int FIRST_DUST = 20;
    private static final int MOST_DUST = 99;
    private static final int DUST_OF_A_NIGHT = 3;
    private static final int DUST_OF_A_CHORE = 10;

    private static final int MOST_BROOMS = 4;
    private static final int MOST_POWER = 20;

    private static final int MOST_GOBLINS = 5;
    private static final int MOST_STRENGTH = 9;
    private static final int MOST_ENERGY = MOST_STRENGTH * (MOST_BROOMS + 1);

    private static final int MOST_CONTRACTS = 8;
    private static final int MOST_WAGE = 50;
    private static final int MOST_EFFORT = 20;

    private static final int FIRST_CRUMBS = 100;
    private static final int MOST_MOVED_CRUMBS = 999;
    private static final int MOST_LENT_CRUMBS = 99;
    private static final int MOST_DEBT_BY_LENDING = 200;
    private static final int MOST_DEBT = 999;

    private static final int MOST_NIGHTS = 60;
    private static final int NIGHTS_UNTIL_BROKEN = 3;
    private static final int NIGHTS_OF_A_WEEK = 7;

    private static final int MOST_CHANGES = 8;
    private static final int MOST_CHARACTERS = 60;
    private static final int MOST_COMMANDS = 12;
    private static final int MOST_ARGUMENTS = 4;

    // No change answers a number below 0, so a change that is refused answers one of these:
    // a script then needs no exception to learn that its command failed.
    private static final int NO_SUCH_INDEX = -1;
    private static final int BAD_ARGUMENT = -2;
    private static final int BAD_STATE = -3;
    private static final int UNSUPPORTED = -4;
    private static final int NO_SUCH_ELEMENT = -5;

    private static final int NONE = -1;

    private final Household now = new Household();
    private final Household forecast = new Household();
    private final Household snapshot = new Household();
    private final History history = new History();
    private final Script script = new Script();
    private final StringBuilder output = new StringBuilder();
    private final int[] bestByEnergy = new int[MOST_ENERGY + 1];
    private boolean hasSnapshot = false;
    private int latestErrorPosition = NONE;
    private int latestFailedCommand = NONE;

    public GoblinHousehold() {
    }

    // ---- changes

    public int addGoblin(int strength) throws IllegalArgumentException, IllegalStateException {
        history.prepare(now);
        return finishChange(now.takeGoblin(strength));
    }

    public int addBroom(int power) throws IllegalArgumentException, IllegalStateException {
        history.prepare(now);
        return finishChange(now.takeBroom(power));
    }

    public int banishBroom(int broom) throws IndexOutOfBoundsException, IllegalStateException {
        history.prepare(now);
        return finishChange(now.putBroomAway(broom));
    }

    public int recallBroom(int broom) throws IndexOutOfBoundsException, IllegalStateException {
        history.prepare(now);
        return finishChange(now.fetchBroom(broom));
    }

    public int hire(int goblin, int room, int wage, int effort)
            throws IndexOutOfBoundsException, IllegalArgumentException, IllegalStateException,
            UnsupportedOperationException {
        history.prepare(now);
        return finishChange(now.signContract(goblin, room, wage, effort));
    }

    public int cancelContract(int contract) throws NoSuchElementException {
        history.prepare(now);
        return finishChange(now.dropContract(contract));
    }

    public int rest(int goblin) throws IndexOutOfBoundsException, IllegalStateException {
        history.prepare(now);
        return finishChange(now.sendToBed(goblin));
    }

    public int wake(int goblin) throws IndexOutOfBoundsException, IllegalStateException {
        history.prepare(now);
        return finishChange(now.getOutOfBed(goblin));
    }

    public int lend(int goblin, int crumbs)
            throws IndexOutOfBoundsException, IllegalArgumentException,
            UnsupportedOperationException {
        history.prepare(now);
        return finishChange(now.advanceCrumbs(goblin, crumbs));
    }

    public int fund(int crumbs) throws IllegalArgumentException {
        history.prepare(now);
        return finishChange(now.takeCrumbsIn(crumbs));
    }

    public int spend(int crumbs) throws IllegalArgumentException, UnsupportedOperationException {
        history.prepare(now);
        return finishChange(now.giveCrumbsOut(crumbs));
    }

    public int passNights(int nights) throws IllegalArgumentException {
        history.prepare(now);
        return finishChange(now.letNightsPass(nights));
    }

    private int finishChange(int answer) {
        switch (answer) {
            case NO_SUCH_INDEX:
                throw new IndexOutOfBoundsException("no such index");
            case BAD_ARGUMENT:
                throw new IllegalArgumentException("a number is out of its bounds");
            case BAD_STATE:
                throw new IllegalStateException("not in this state");
            case UNSUPPORTED:
                throw new UnsupportedOperationException("the household cannot do this now");
            case NO_SUCH_ELEMENT:
                throw new NoSuchElementException("no such open contract");
            default:
                history.keep();
                return answer;
        }
    }

    // ---- rooms and brooms

    public int dust(int room) throws IndexOutOfBoundsException {
        if (room < 0 || room >= ROOMS) {
            throw new IndexOutOfBoundsException("no such room");
        }
        return now.dustOfRooms[room];
    }

    public int roomByDust(int rank) throws NoSuchElementException {
        for (int room = 0; room < ROOMS; room++) {
            if (now.rankByDust(room) == rank) {
                return room;
            }
        }
        throw new NoSuchElementException("no such rank");
    }

    public int broomCount() {
        return now.brooms.count;
    }

    public int power(int broom) throws IndexOutOfBoundsException {
        checkBroom(broom);
        return now.brooms.powers[broom];
    }

    public boolean isBanished(int broom) throws IndexOutOfBoundsException {
        checkBroom(broom);
        return now.brooms.banished[broom];
    }

    private void checkBroom(int broom) {
        if (!now.brooms.has(broom)) {
            throw new IndexOutOfBoundsException("no such broom");
        }
    }

    // ---- goblins

    public int goblinCount() {
        return now.goblins.count;
    }

    public int strength(int goblin) throws IndexOutOfBoundsException {
        checkGoblin(goblin);
        return now.goblins.strengths[goblin];
    }

    public int purse(int goblin) throws IndexOutOfBoundsException {
        checkGoblin(goblin);
        return now.goblins.purses[goblin];
    }

    public int debt(int goblin) throws IndexOutOfBoundsException {
        checkGoblin(goblin);
        return now.goblins.debts[goblin];
    }

    public int skippedNights(int goblin) throws IndexOutOfBoundsException {
        checkGoblin(goblin);
        return now.goblins.skipped[goblin];
    }

    public boolean isResting(int goblin) throws IndexOutOfBoundsException {
        checkGoblin(goblin);
        return now.goblins.resting[goblin];
    }

    public int energy(int goblin) throws IndexOutOfBoundsException {
        checkGoblin(goblin);
        return now.energyOf(goblin);
    }

    public int goblinByWealth(int rank) throws NoSuchElementException {
        for (int goblin = 0; goblin < now.goblins.count; goblin++) {
            if (now.goblins.rankByWealth(goblin) == rank) {
                return goblin;
            }
        }
        throw new NoSuchElementException("no such rank");
    }

    public int bestWages(int goblin) throws IndexOutOfBoundsException {
        checkGoblin(goblin);
        return now.contracts.bestOfAllSets(goblin, now.energyOf(goblin));
    }

    public int bestWagesByTable(int goblin) throws IndexOutOfBoundsException {
        checkGoblin(goblin);
        return now.contracts.bestOfTable(goblin, now.energyOf(goblin), bestByEnergy);
    }

    private void checkGoblin(int goblin) {
        if (!now.goblins.has(goblin)) {
            throw new IndexOutOfBoundsException("no such goblin");
        }
    }

    // ---- contracts

    public int openContracts() {
        return now.contracts.count;
    }

    public int contractAt(int position) throws NoSuchElementException {
        if (position < 0 || position >= now.contracts.count) {
            throw new NoSuchElementException("no such position");
        }
        return now.contracts.ids[position];
    }

    public int goblinOf(int contract) throws NoSuchElementException {
        return now.contracts.goblins[checkedPosition(contract)];
    }

    public int roomOf(int contract) throws NoSuchElementException {
        return now.contracts.rooms[checkedPosition(contract)];
    }

    public int wage(int contract) throws NoSuchElementException {
        return now.contracts.wages[checkedPosition(contract)];
    }

    public int effort(int contract) throws NoSuchElementException {
        return now.contracts.efforts[checkedPosition(contract)];
    }

    public int nightsUntilDone(int contract) throws NoSuchElementException, IllegalStateException {
        int goblin = now.contracts.goblins[checkedPosition(contract)];
        // Nothing wakes a goblin in a prediction: the contracts of one that rests are broken, and
        // those of one that works are never broken, so a contract that is gone is done.
        if (now.goblins.resting[goblin]) {
            throw new IllegalStateException("a goblin that rests does nothing");
        }
        forecast.copyFrom(now);
        for (int nights = 1; nights <= MOST_NIGHTS; nights++) {
            forecast.passOneNight();
            if (forecast.contracts.positionOf(contract) == NONE) {
                return nights;
            }
        }
        throw new IllegalStateException("not done within the nights that are predicted");
    }

    private int checkedPosition(int contract) {
        int position = now.contracts.positionOf(contract);
        if (position == NONE) {
            throw new NoSuchElementException("no such open contract");
        }
        return position;
    }

    // ---- predictions

    public int chestAfter(int nights) throws IllegalArgumentException {
        predict(nights);
        return forecast.crumbsInChest;
    }

    public int debtAfter(int goblin, int nights)
            throws IndexOutOfBoundsException, IllegalArgumentException {
        checkGoblin(goblin);
        predict(nights);
        return forecast.goblins.debts[goblin];
    }

    private void predict(int nights) {
        if (nights < 0 || nights > MOST_NIGHTS) {
            throw new IllegalArgumentException("the number of nights is out of its bounds");
        }
        forecast.copyFrom(now);
        for (int i = 0; i < nights; i++) {
            forecast.passOneNight();
        }
    }

    // ---- totals and checks

    public int night() {
        return now.nights;
    }

    public int chest() {
        return now.crumbsInChest;
    }

    public int allCrumbs() {
        return now.crumbsInChest + now.goblins.crumbsInPurses();
    }

    public int allCrumbsByAccounts() {
        return FIRST_CRUMBS + now.funded - now.spent;
    }

    public int doneTotal() {
        return now.done;
    }

    public int brokenTotal() {
        return now.broken;
    }

    public int unpaidTotal() {
        return now.unpaid;
    }

    public int interestTotal() {
        return now.interest;
    }

    public double meanDust() {
        int sum = 0;
        for (int room = 0; room < ROOMS; room++) {
            sum += now.dustOfRooms[room];
        }
        return (double) sum / (double) ROOMS;
    }

    public float reliability() throws ArithmeticException {
        int ended = now.done + now.broken;
        if (ended == 0) {
            throw new ArithmeticException("no contract is done or broken");
        }
        return (float) now.done / (float) ended;
    }

    public boolean isConsistent() {
        for (int goblin = 0; goblin < now.goblins.count; goblin++) {
            if (bestWages(goblin) != bestWagesByTable(goblin)) {
                return false;
            }
        }
        return allCrumbs() == allCrumbsByAccounts()
                && now.crumbsInChest >= 0
                && !now.goblins.anyCrumbsNegative()
                && !now.contracts.anyTwiceForARoom();
    }

    // ---- output and scripts

    public int renderGoblin(int goblin) throws IndexOutOfBoundsException {
        checkGoblin(goblin);
        Goblins goblins = now.goblins;
        output.setLength(0);
        output.append(goblin);
        output.append('s').append(goblins.strengths[goblin]);
        output.append('p').append(goblins.purses[goblin]);
        if (goblins.debts[goblin] != 0) {
            output.append('d').append(goblins.debts[goblin]);
        }
        if (goblins.resting[goblin]) {
            output.append('z');
        }
        return output.length();
    }

    public int renderContracts() {
        Contracts contracts = now.contracts;
        output.setLength(0);
        for (int i = 0; i < contracts.count; i++) {
            if (i > 0) {
                output.append(' ');
            }
            output.append(contracts.ids[i]);
            output.append(':').append(contracts.goblins[i]);
            output.append('>').append(contracts.rooms[i]);
            output.append('@').append(contracts.wages[i]);
            output.append('/').append(contracts.efforts[i]);
        }
        return output.length();
    }

    public char outputAt(int index) throws IndexOutOfBoundsException {
        if (index < 0 || index >= output.length()) {
            throw new IndexOutOfBoundsException("no such index in the output text");
        }
        return output.charAt(index);
    }

    public int type(char character) throws IllegalArgumentException, IllegalStateException {
        if (character < 32 || character > 126) {
            throw new IllegalArgumentException("not a character that can be typed");
        }
        if (script.text.length() >= MOST_CHARACTERS) {
            throw new IllegalStateException("the script buffer is full");
        }
        script.text.append(character);
        return script.text.length();
    }

    public int runScript() throws IllegalArgumentException, IllegalStateException {
        boolean wellFormed = script.readCommands();
        script.text.setLength(0);
        if (!wellFormed) {
            latestErrorPosition = script.furthest;
            throw new IllegalArgumentException("the script does not have the required form");
        }
        history.prepare(now);
        for (int i = 0; i < script.count; i++) {
            if (now.execute(script.commands[i]) < 0) {
                history.takeBack(now);
                latestFailedCommand = i;
                throw new IllegalStateException("a command of the script failed");
            }
        }
        history.keep();
        return script.count;
    }

    public int errorPosition() throws NoSuchElementException {
        if (latestErrorPosition == NONE) {
            throw new NoSuchElementException("every script had the required form");
        }
        return latestErrorPosition;
    }

    public int failedCommand() throws NoSuchElementException {
        if (latestFailedCommand == NONE) {
            throw new NoSuchElementException("no command of a script failed");
        }
        return latestFailedCommand;
    }

    public int undo() throws NoSuchElementException {
        if (history.count == 0) {
            throw new NoSuchElementException("there is nothing to undo");
        }
        history.stepBack(now);
        return history.count;
    }

    public int save() {
        snapshot.copyFrom(now);
        hasSnapshot = true;
        return now.contracts.count;
    }

    public int restore() throws IllegalStateException {
        if (!hasSnapshot) {
            throw new IllegalStateException("there is no snapshot");
        }
        now.copyFrom(snapshot);
        history.count = 0;
        return now.contracts.count;
    }

    /** The brooms, a column for each thing that is known of them. */
    private static final class Brooms {
        final int[] powers = new int[MOST_BROOMS];
        final boolean[] banished = new boolean[MOST_BROOMS];
        int count = 0;

        void copyFrom(Brooms other) {
            for (int broom = 0; broom < MOST_BROOMS; broom++) {
                powers[broom] = other.powers[broom];
                banished[broom] = other.banished[broom];
            }
            count = other.count;
        }

        boolean has(int broom) {
            return broom >= 0 && broom < count;
        }

        int inUse() {
            int number = 0;
            for (int broom = 0; broom < count; broom++) {
                if (!banished[broom]) {
                    number++;
                }
            }
            return number;
        }

        int greatestPowerInUse() {
            int greatest = 0;
            for (int broom = 0; broom < count; broom++) {
                if (!banished[broom] && powers[broom] > greatest) {
                    greatest = powers[broom];
                }
            }
            return greatest;
        }
    }

    /** The goblins, a column for each thing that is known of them. */
    private static final class Goblins {
        final int[] strengths = new int[MOST_GOBLINS];
        final int[] purses = new int[MOST_GOBLINS];
        final int[] debts = new int[MOST_GOBLINS];
        final int[] skipped = new int[MOST_GOBLINS];
        final boolean[] resting = new boolean[MOST_GOBLINS];
        int count = 0;

        void copyFrom(Goblins other) {
            for (int goblin = 0; goblin < MOST_GOBLINS; goblin++) {
                strengths[goblin] = other.strengths[goblin];
                purses[goblin] = other.purses[goblin];
                debts[goblin] = other.debts[goblin];
                skipped[goblin] = other.skipped[goblin];
                resting[goblin] = other.resting[goblin];
            }
            count = other.count;
        }

        boolean has(int goblin) {
            return goblin >= 0 && goblin < count;
        }

        int numberResting() {
            int number = 0;
            for (int goblin = 0; goblin < count; goblin++) {
                if (resting[goblin]) {
                    number++;
                }
            }
            return number;
        }

        int crumbsInPurses() {
            int sum = 0;
            for (int goblin = 0; goblin < count; goblin++) {
                sum += purses[goblin];
            }
            return sum;
        }

        boolean anyCrumbsNegative() {
            for (int goblin = 0; goblin < count; goblin++) {
                if (purses[goblin] < 0 || debts[goblin] < 0) {
                    return true;
                }
            }
            return false;
        }

        int rankByWealth(int goblin) {
            int rank = 0;
            for (int other = 0; other < count; other++) {
                if (isWealthier(other, goblin)) {
                    rank++;
                }
            }
            return rank;
        }

        private boolean isWealthier(int one, int other) {
            int wealthOfOne = purses[one] - debts[one];
            int wealthOfOther = purses[other] - debts[other];
            if (wealthOfOne != wealthOfOther) {
                return wealthOfOne > wealthOfOther;
            }
            if (strengths[one] != strengths[other]) {
                return strengths[one] > strengths[other];
            }
            return one < other;
        }
    }

    /** The open contracts in the order of their ids, a column for each thing known of them. */
    private static final class Contracts {
        final int[] ids = new int[MOST_CONTRACTS];
        final int[] goblins = new int[MOST_CONTRACTS];
        final int[] rooms = new int[MOST_CONTRACTS];
        final int[] wages = new int[MOST_CONTRACTS];
        final int[] efforts = new int[MOST_CONTRACTS];
        int count = 0;
        int nextId = 0;

        void copyFrom(Contracts other) {
            for (int i = 0; i < MOST_CONTRACTS; i++) {
                setRow(i, other, i);
            }
            count = other.count;
            nextId = other.nextId;
        }

        int positionOf(int contract) {
            for (int i = 0; i < count; i++) {
                if (ids[i] == contract) {
                    return i;
                }
            }
            return NONE;
        }

        int firstOf(int goblin) {
            for (int i = 0; i < count; i++) {
                if (goblins[i] == goblin) {
                    return i;
                }
            }
            return NONE;
        }

        boolean areFor(int goblin, int room) {
            for (int i = 0; i < count; i++) {
                if (goblins[i] == goblin && rooms[i] == room) {
                    return true;
                }
            }
            return false;
        }

        boolean anyTwiceForARoom() {
            for (int i = 0; i < count; i++) {
                for (int k = i + 1; k < count; k++) {
                    if (goblins[i] == goblins[k] && rooms[i] == rooms[k]) {
                        return true;
                    }
                }
            }
            return false;
        }

        void removeAt(int position) {
            for (int i = position; i < count - 1; i++) {
                setRow(i, this, i + 1);
            }
            count--;
        }

        private void setRow(int position, Contracts other, int positionThere) {
            ids[position] = other.ids[positionThere];
            goblins[position] = other.goblins[positionThere];
            rooms[position] = other.rooms[positionThere];
            wages[position] = other.wages[positionThere];
            efforts[position] = other.efforts[positionThere];
        }

        int bestOfAllSets(int goblin, int energy) {
            int best = 0;
            for (int set = 0; set < 1 << count; set++) {
                best = Math.max(best, wagesOfSet(set, goblin, energy));
            }
            return best;
        }

        private int wagesOfSet(int set, int goblin, int energy) {
            int sum = 0;
            int left = energy;
            for (int i = 0; i < count; i++) {
                if ((set >> i & 1) == 1) {
                    if (goblins[i] != goblin || efforts[i] > left) {
                        return 0;
                    }
                    left -= efforts[i];
                    sum += wages[i];
                }
            }
            return sum;
        }

        int bestOfTable(int goblin, int energy, int[] bestByEnergy) {
            for (int i = 0; i < bestByEnergy.length; i++) {
                bestByEnergy[i] = 0;
            }
            for (int i = 0; i < count; i++) {
                if (goblins[i] == goblin) {
                    enterInTable(wages[i], efforts[i], bestByEnergy);
                }
            }
            return energy >= 0 && energy < bestByEnergy.length ? bestByEnergy[energy] : 0;
        }

        private static void enterInTable(int wage, int effort, int[] bestByEnergy) {
            // Downwards, so that no contract is counted twice.
            for (int energy = bestByEnergy.length - 1; energy >= effort; energy--) {
                int with = bestByEnergy[energy - effort] + wage;
                bestByEnergy[energy] = Math.max(bestByEnergy[energy], with);
            }
        }
    }

    /** All that undo and the snapshot cover, with the rules by which it changes. */
    private static final class Household {
        final int[] dustOfRooms = new int[ROOMS];
        final Brooms brooms = new Brooms();
        final Goblins goblins = new Goblins();
        final Contracts contracts = new Contracts();
        int nights = 0;
        int crumbsInChest = FIRST_CRUMBS;
        int funded = 0;
        int spent = 0;
        int done = 0;
        int broken = 0;
        int unpaid = 0;
        int interest = 0;

        Household() {
            for (int room = 0; room < ROOMS; room++) {
                dustOfRooms[room] = FIRST_DUST;
            }
        }

        void copyFrom(Household other) {
            for (int room = 0; room < ROOMS; room++) {
                dustOfRooms[room] = other.dustOfRooms[room];
            }
            brooms.copyFrom(other.brooms);
            goblins.copyFrom(other.goblins);
            contracts.copyFrom(other.contracts);
            nights = other.nights;
            crumbsInChest = other.crumbsInChest;
            funded = other.funded;
            spent = other.spent;
            done = other.done;
            broken = other.broken;
            unpaid = other.unpaid;
            interest = other.interest;
        }

        int execute(Command command) {
            int[] given = command.arguments;
            switch (command.form) {
                case GOBLIN:
                    return takeGoblin(given[0]);
                case BROOM:
                    return takeBroom(given[0]);
                case BANISH:
                    return putBroomAway(given[0]);
                case RECALL:
                    return fetchBroom(given[0]);
                case HIRE:
                    return signContract(given[0], given[1], given[2], given[3]);
                case CANCEL:
                    return dropContract(given[0]);
                case REST:
                    return sendToBed(given[0]);
                case WAKE:
                    return getOutOfBed(given[0]);
                case LEND:
                    return advanceCrumbs(given[0], given[1]);
                case FUND:
                    return takeCrumbsIn(given[0]);
                case SPEND:
                    return giveCrumbsOut(given[0]);
                case NIGHTS:
                    return letNightsPass(given[0]);
                default:
                    return letNightsPass(1);
            }
        }

        int takeGoblin(int strength) {
            if (strength < 1 || strength > MOST_STRENGTH) {
                return BAD_ARGUMENT;
            }
            int goblin = goblins.count;
            if (goblin >= MOST_GOBLINS) {
                return BAD_STATE;
            }
            goblins.strengths[goblin] = strength;
            goblins.purses[goblin] = 0;
            goblins.debts[goblin] = 0;
            goblins.skipped[goblin] = 0;
            goblins.resting[goblin] = false;
            goblins.count++;
            return goblin;
        }

        int takeBroom(int power) {
            if (power < 1 || power > MOST_POWER) {
                return BAD_ARGUMENT;
            }
            int broom = brooms.count;
            if (broom >= MOST_BROOMS) {
                return BAD_STATE;
            }
            brooms.powers[broom] = power;
            brooms.banished[broom] = false;
            brooms.count++;
            return broom;
        }

        int putBroomAway(int broom) {
            if (!brooms.has(broom)) {
                return NO_SUCH_INDEX;
            }
            if (brooms.banished[broom]) {
                return BAD_STATE;
            }
            brooms.banished[broom] = true;
            return brooms.inUse();
        }

        int fetchBroom(int broom) {
            if (!brooms.has(broom)) {
                return NO_SUCH_INDEX;
            }
            if (!brooms.banished[broom]) {
                return BAD_STATE;
            }
            brooms.banished[broom] = false;
            return brooms.inUse();
        }

        int signContract(int goblin, int room, int wage, int effort) {
            if (!goblins.has(goblin) || room < 0 || room >= ROOMS) {
                return NO_SUCH_INDEX;
            }
            if (wage < 1 || wage > MOST_WAGE || effort < 1 || effort > MOST_EFFORT) {
                return BAD_ARGUMENT;
            }
            int position = contracts.count;
            if (position >= MOST_CONTRACTS) {
                return BAD_STATE;
            }
            if (contracts.areFor(goblin, room)) {
                return UNSUPPORTED;
            }
            int id = contracts.nextId;
            contracts.ids[position] = id;
            contracts.goblins[position] = goblin;
            contracts.rooms[position] = room;
            contracts.wages[position] = wage;
            contracts.efforts[position] = effort;
            contracts.count++;
            contracts.nextId++;
            return id;
        }

        int dropContract(int contract) {
            int position = contracts.positionOf(contract);
            if (position == NONE) {
                return NO_SUCH_ELEMENT;
            }
            int crumbs = Math.min(contracts.wages[position] / 10, crumbsInChest);
            crumbsInChest -= crumbs;
            goblins.purses[contracts.goblins[position]] += crumbs;
            contracts.removeAt(position);
            return crumbs;
        }

        int sendToBed(int goblin) {
            if (!goblins.has(goblin)) {
                return NO_SUCH_INDEX;
            }
            if (goblins.resting[goblin]) {
                return BAD_STATE;
            }
            goblins.resting[goblin] = true;
            return goblins.numberResting();
        }

        int getOutOfBed(int goblin) {
            if (!goblins.has(goblin)) {
                return NO_SUCH_INDEX;
            }
            if (!goblins.resting[goblin]) {
                return BAD_STATE;
            }
            goblins.resting[goblin] = false;
            return goblins.skipped[goblin];
        }

        int advanceCrumbs(int goblin, int crumbs) {
            if (!goblins.has(goblin)) {
                return NO_SUCH_INDEX;
            }
            if (crumbs < 1 || crumbs > MOST_LENT_CRUMBS) {
                return BAD_ARGUMENT;
            }
            int debt = goblins.debts[goblin] + crumbs;
            if (crumbsInChest < crumbs || debt > MOST_DEBT_BY_LENDING) {
                return UNSUPPORTED;
            }
            crumbsInChest -= crumbs;
            goblins.purses[goblin] += crumbs;
            goblins.debts[goblin] = debt;
            return debt;
        }

        int takeCrumbsIn(int crumbs) {
            if (crumbs < 1 || crumbs > MOST_MOVED_CRUMBS) {
                return BAD_ARGUMENT;
            }
            crumbsInChest += crumbs;
            funded += crumbs;
            return crumbsInChest;
        }

        int giveCrumbsOut(int crumbs) {
            if (crumbs < 1 || crumbs > MOST_MOVED_CRUMBS) {
                return BAD_ARGUMENT;
            }
            if (crumbsInChest < crumbs) {
                return UNSUPPORTED;
            }
            crumbsInChest -= crumbs;
            spent += crumbs;
            return crumbsInChest;
        }

        int letNightsPass(int number) {
            if (number < 1 || number > MOST_NIGHTS) {
                return BAD_ARGUMENT;
            }
            int doneBefore = done;
            for (int i = 0; i < number; i++) {
                passOneNight();
            }
            return done - doneBefore;
        }

        void passOneNight() {
            nights++;
            for (int room = 0; room < ROOMS; room++) {
                dustOfRooms[room] = Math.min(dustOfRooms[room] + DUST_OF_A_NIGHT, MOST_DUST);
            }
            for (int goblin = 0; goblin < goblins.count; goblin++) {
                if (goblins.resting[goblin]) {
                    goblins.skipped[goblin]++;
                } else {
                    goblins.skipped[goblin] = 0;
                    work(goblin);
                }
            }
            breakContracts();
            if (nights % NIGHTS_OF_A_WEEK == 0) {
                growDebts();
            }
        }

        int rankByDust(int room) {
            int rank = 0;
            for (int other = 0; other < ROOMS; other++) {
                int more = dustOfRooms[other] - dustOfRooms[room];
                if (more > 0 || more == 0 && other < room) {
                    rank++;
                }
            }
            return rank;
        }

        int energyOf(int goblin) {
            return goblins.strengths[goblin] * (brooms.inUse() + 1);
        }

        private void work(int goblin) {
            int energy = energyOf(goblin);
            for (int i = 0; i < MOST_CONTRACTS; i++) {
                int position = contracts.firstOf(goblin);
                if (position == NONE || contracts.efforts[position] > energy) {
                    return;
                }
                energy -= contracts.efforts[position];
                int room = contracts.rooms[position];
                int cleaned = DUST_OF_A_CHORE + brooms.greatestPowerInUse();
                dustOfRooms[room] = Math.max(dustOfRooms[room] - cleaned, 0);
                pay(goblin, contracts.wages[position]);
                contracts.removeAt(position);
                done++;
            }
        }

        private void pay(int goblin, int wage) {
            int paid = Math.min(wage, crumbsInChest);
            int paidOff = Math.min(paid, goblins.debts[goblin]);
            unpaid += wage - paid;
            crumbsInChest += paidOff - paid;
            goblins.debts[goblin] -= paidOff;
            goblins.purses[goblin] += paid - paidOff;
        }

        private void breakContracts() {
            // From the last to the first, as removing one moves those behind it.
            for (int i = contracts.count - 1; i >= 0; i--) {
                if (goblins.skipped[contracts.goblins[i]] >= NIGHTS_UNTIL_BROKEN) {
                    contracts.removeAt(i);
                    broken++;
                }
            }
        }

        private void growDebts() {
            for (int goblin = 0; goblin < goblins.count; goblin++) {
                int debt = goblins.debts[goblin];
                if (debt > 0) {
                    int grown = Math.min(debt + debt / 10 + 1, MOST_DEBT);
                    interest += grown - debt;
                    goblins.debts[goblin] = grown;
                }
            }
        }
    }

    /** The states before the latest changes, the oldest first, and behind them a spare row. */
    private static final class History {
        final Household[] rows = new Household[MOST_CHANGES + 1];
        int count = 0;

        History() {
            for (int i = 0; i < rows.length; i++) {
                rows[i] = new Household();
            }
        }

        // Only the spare row is written until the change has returned normally, so that a change
        // that is refused leaves all the states that can be undone to.
        void prepare(Household now) {
            rows[count].copyFrom(now);
        }

        void keep() {
            if (count < MOST_CHANGES) {
                count++;
                return;
            }
            Household oldest = rows[0];
            for (int i = 0; i < MOST_CHANGES; i++) {
                rows[i] = rows[i + 1];
            }
            rows[MOST_CHANGES] = oldest;
        }

        void takeBack(Household now) {
            now.copyFrom(rows[count]);
        }

        void stepBack(Household now) {
            count--;
            now.copyFrom(rows[count]);
        }
    }

    /**
     * The forms of a command: "#" stands for a digit, "*" for a number, and every other sign for
     * itself. No text has two forms, and what can follow a number is never a digit, so a form is
     * read from left to right without going back.
     */
    private enum Form {
        GOBLIN("goblin #"),
        BROOM("broom *"),
        BANISH("banish #"),
        RECALL("recall #"),
        HIRE("hire # # */*"),
        CANCEL("cancel *"),
        REST("rest #"),
        WAKE("wake #"),
        LEND("lend # *"),
        FUND("fund *"),
        SPEND("spend *"),
        NIGHT("night"),
        NIGHTS("night *");

        final String signs;

        Form(String signs) {
            this.signs = signs;
        }
    }

    /** A command of a script with its arguments. */
    private static final class Command {
        final int[] arguments = new int[MOST_ARGUMENTS];
        int count = 0;
        Form form = Form.NIGHT;

        void addArgument(int value) {
            if (count < MOST_ARGUMENTS) {
                arguments[count] = value;
                count++;
            }
        }
    }

    /** The script buffer, and the commands that were read from it. */
    private static final class Script {
        private static final Form[] FORMS = Form.values();

        final StringBuilder text = new StringBuilder();
        final Command[] commands = new Command[MOST_COMMANDS];
        int count = 0;
        // The farthest place at which a form stopped fitting: if no form fits, what stands before
        // it can still continue to a script, and what stands at it cannot.
        int furthest = 0;

        Script() {
            for (int i = 0; i < commands.length; i++) {
                commands[i] = new Command();
            }
        }

        boolean readCommands() {
            count = 0;
            furthest = 0;
            int start = 0;
            // A command has at least 5 characters, so a full buffer holds fewer than MOST_COMMANDS.
            for (int i = 0; i < MOST_COMMANDS; i++) {
                int end = readCommand(start, commands[i]);
                if (end == NONE) {
                    return false;
                }
                count++;
                if (end == text.length()) {
                    return true;
                }
                start = end + 1;
            }
            return false;
        }

        private int readCommand(int start, Command command) {
            for (Form form : FORMS) {
                int end = fit(form.signs, start, command);
                if (end != NONE) {
                    command.form = form;
                    return end;
                }
            }
            return NONE;
        }

        private int fit(String signs, int start, Command command) {
            command.count = 0;
            int at = start;
            for (int i = 0; i < signs.length(); i++) {
                int end = endOfSign(signs.charAt(i), at);
                if (end == at) {
                    return stopAt(at);
                }
                if (isArgument(signs.charAt(i))) {
                    command.addArgument(numberBetween(at, end));
                }
                at = end;
            }
            if (at < text.length() && text.charAt(at) != ';') {
                return stopAt(at);
            }
            return at;
        }

        private int stopAt(int at) {
            furthest = Math.max(furthest, at);
            return NONE;
        }

        private static boolean isArgument(char sign) {
            return sign == '#' || sign == '*';
        }

        private int endOfSign(char sign, int at) {
            if (isArgument(sign)) {
                return endOfDigits(at, sign == '#' ? 1 : 3);
            }
            return at < text.length() && text.charAt(at) == sign ? at + 1 : at;
        }

        private int endOfDigits(int at, int most) {
            int end = at;
            for (int i = 0; i < most; i++) {
                if (end < text.length() && text.charAt(end) >= '0' && text.charAt(end) <= '9') {
                    end++;
                }
            }
            return end;
        }

        private int numberBetween(int start, int end) {
            int number = 0;
            for (int i = start; i < end; i++) {
                number = number * 10 + (text.charAt(i) - '0');
            }
            return number;
        }
    }
}
