import java.util.Arrays;
import java.util.NoSuchElementException;

/**
 * A quarry: a wall of cells with veins of equal hardness, charges whose blasts set off each other, a tunnel
 * through the wall, slabs and blocks that are cut from open cells, and stone that is cut into pieces and sold.
 */
public final class StoneQuarry {
    private static final int SIDE = 6;
    private static final int CELLS = 36;
    private static final int DIRECTIONS = 4;
    private static final int OPEN = 0;
    private static final int FIRST_HARDNESS = 5;
    private static final int MOST_HARDNESS = 9;
    private static final int MOST_STRENGTH = 9;
    private static final int MOST_CHARGES = 6;
    private static final int LONGEST_PIECE = 10;
    private static final int LONGEST_BAR = 30;
    private static final int LONGEST_CHECKED_BAR = 12;
    private static final int MOST_PRICE = 99;
    private static final int MOST_UNDOS = 8;
    private static final int NONE = -1;

    private static final int FINE = 0;
    private static final int BAD_ARGUMENT = 1;
    private static final int BAD_STATE = 2;
    private static final int TOO_LITTLE = 3;

    private final QuarryState state = new QuarryState();
    private final QuarryState before = new QuarryState();
    private final QuarryState snapshot = new QuarryState();
    private final History history = new History();
    private final Veins veins = new Veins();
    private final Blast blast = new Blast();
    private final Tunnels tunnels = new Tunnels();
    private final Slabs slabs = new Slabs();
    private final Blocks blocks = new Blocks();
    private final Cuts cuts = new Cuts();
    private final Line line = new Line();
    private final CommandText text = new CommandText();
    private boolean snapshotTaken;
    private int lastErrorPosition = NONE;
    private int lastFailedCommand = NONE;

    /** Creates a quarry with rock of hardness 5 only, without charges and coins, and with all prices 0. */
    public StoneQuarry() {
    }

    // The wall.

    /** Sets the hardness of a rock cell and returns the previous one. */
    public int setHardness(int row, int column, int hardness)
            throws IllegalArgumentException, IllegalStateException {
        int fault = state.faultOfHardness(row, column, hardness);
        if (fault == BAD_ARGUMENT) {
            throw new IllegalArgumentException("no such cell, or hardness out of range");
        }
        if (fault == BAD_STATE) {
            throw new IllegalStateException("the cell is open");
        }
        history.remember(state);
        return state.harden(cellAt(row, column), hardness);
    }

    /** Digs a rock cell that can be reached, and returns the coins that are left. */
    public long dig(int row, int column)
            throws IllegalArgumentException, IllegalStateException, UnsupportedOperationException {
        int fault = state.faultOfDigging(row, column);
        if (fault == BAD_ARGUMENT) {
            throw new IllegalArgumentException("no such cell");
        }
        if (fault == BAD_STATE) {
            throw new IllegalStateException("the cell is open, contains a charge or cannot be reached");
        }
        if (fault == TOO_LITTLE) {
            throw new UnsupportedOperationException("too few coins");
        }
        history.remember(state);
        return state.digOut(cellAt(row, column));
    }

    /** Returns the hardness of a rock cell. */
    public int hardnessOf(int row, int column) throws IllegalArgumentException, IllegalStateException {
        int cell = cellAt(row, column);
        if (cell == NONE) {
            throw new IllegalArgumentException("no such cell");
        }
        if (state.openAt(cell)) {
            throw new IllegalStateException("the cell is open");
        }
        return state.hardnessAt(cell);
    }

    /** Returns whether a cell is open. */
    public boolean isOpen(int row, int column) throws IllegalArgumentException {
        int cell = cellAt(row, column);
        if (cell == NONE) {
            throw new IllegalArgumentException("no such cell");
        }
        return state.openAt(cell);
    }

    /** Returns the number of open cells. */
    public int openCount() {
        return state.countOpen();
    }

    /** Returns the number of veins with a hardness. */
    public int veinCount(int hardness) throws IllegalArgumentException {
        if (!inRange(hardness, 1, MOST_HARDNESS)) {
            throw new IllegalArgumentException("hardness out of range");
        }
        return veins.countOf(state, hardness);
    }

    /** Returns the number of cells of the vein to which a rock cell belongs. */
    public int veinSize(int row, int column) throws IllegalArgumentException, IllegalStateException {
        int cell = cellAt(row, column);
        if (cell == NONE) {
            throw new IllegalArgumentException("no such cell");
        }
        if (state.openAt(cell)) {
            throw new IllegalStateException("the cell is open");
        }
        return veins.sizeFrom(state, cell);
    }

    // Charges.

    /** Lays a charge and returns its number. */
    public int addCharge(int row, int column, int strength)
            throws IllegalArgumentException, IllegalStateException {
        int fault = state.faultOfLaying(row, column, strength);
        if (fault == BAD_ARGUMENT) {
            throw new IllegalArgumentException("no such cell, or strength out of range");
        }
        if (fault == BAD_STATE) {
            throw new IllegalStateException("too many charges, or no free rock cell");
        }
        history.remember(state);
        return state.lay(cellAt(row, column), strength);
    }

    /** Removes a charge and returns the number of charges that are left. */
    public int removeCharge(int charge) throws IndexOutOfBoundsException {
        if (!state.hasCharge(charge)) {
            throw new IndexOutOfBoundsException("no such charge");
        }
        history.remember(state);
        return state.takeAway(charge);
    }

    /** Ignites a charge and returns the number of cells that become open. */
    public int ignite(int charge) throws IndexOutOfBoundsException {
        if (!state.hasCharge(charge)) {
            throw new IndexOutOfBoundsException("no such charge");
        }
        history.remember(state);
        return blowUp(charge);
    }

    /** Returns the number of charges. */
    public int chargeCount() {
        return state.charges;
    }

    /** Returns the row of a charge. */
    public int chargeRow(int charge) throws IndexOutOfBoundsException {
        if (!state.hasCharge(charge)) {
            throw new IndexOutOfBoundsException("no such charge");
        }
        return state.cellOf(charge) / SIDE;
    }

    /** Returns the column of a charge. */
    public int chargeColumn(int charge) throws IndexOutOfBoundsException {
        if (!state.hasCharge(charge)) {
            throw new IndexOutOfBoundsException("no such charge");
        }
        return state.cellOf(charge) % SIDE;
    }

    /** Returns the strength of a charge. */
    public int chargeStrength(int charge) throws IndexOutOfBoundsException {
        if (!state.hasCharge(charge)) {
            throw new IndexOutOfBoundsException("no such charge");
        }
        return state.strengthOf(charge);
    }

    /** Returns how many charges would explode if a charge was ignited, by letting one after the other explode. */
    public int chainOf(int charge) throws IndexOutOfBoundsException {
        if (!state.hasCharge(charge)) {
            throw new IndexOutOfBoundsException("no such charge");
        }
        blast.run(state, charge);
        return blast.explodedCount;
    }

    /** Returns the same as chainOf, by rounds in which all charges are asked which other ones they set off. */
    public int chainByRounds(int charge) throws IndexOutOfBoundsException {
        if (!state.hasCharge(charge)) {
            throw new IndexOutOfBoundsException("no such charge");
        }
        return blast.countByRounds(state, charge);
    }

    /** Returns how many cells would become open if a charge was ignited. */
    public int opensOf(int charge) throws IndexOutOfBoundsException {
        if (!state.hasCharge(charge)) {
            throw new IndexOutOfBoundsException("no such charge");
        }
        blast.run(state, charge);
        return blast.openedCount;
    }

    /** Returns the charge that would open the most cells; of several, the one with the lowest number. */
    public int bestCharge() throws NoSuchElementException {
        if (state.charges == 0) {
            throw new NoSuchElementException("no charges");
        }
        int best = 0;
        int most = NONE;
        for (int charge = 0; charge < state.charges; charge++) {
            blast.run(state, charge);
            if (blast.openedCount > most) {
                most = blast.openedCount;
                best = charge;
            }
        }
        return best;
    }

    // Tunnels, slabs and blocks.

    /** Returns the least cost of a tunnel, by going on from the cell that is reached with the least cost. */
    public int tunnelCost() {
        return tunnels.costByNearest(state);
    }

    /** Returns the same as tunnelCost, by rounds over all cells until no cost becomes less. */
    public int tunnelByRounds() {
        return tunnels.costByRounds(state);
    }

    /** Returns the greatest number of slabs, by moving slabs to make room for further ones. */
    public int mostSlabs() {
        return slabs.countByMoving(state);
    }

    /** Returns the same as mostSlabs, cell by cell, for all ways in which the next cells can be covered already. */
    public int slabsByCells() {
        return slabs.countByCells(state);
    }

    /** Returns the number of cells of the largest block, by trying all rectangles. */
    public int largestBlock() {
        return blocks.sizeByRectangles(state);
    }

    /** Returns the same as largestBlock, from the numbers of open cells above each cell. */
    public int blockByHeights() {
        return blocks.sizeByHeights(state);
    }

    // Stone and coins.

    /** Sets the price of a length and returns the previous one. */
    public int setPrice(int length, int price) throws IllegalArgumentException {
        if (state.faultOfPrice(length, price) != FINE) {
            throw new IllegalArgumentException("length or price out of range");
        }
        history.remember(state);
        return state.putPrice(length, price);
    }

    /** Returns the price of a length. */
    public int priceOf(int length) throws IllegalArgumentException {
        if (!inRange(length, 1, LONGEST_PIECE)) {
            throw new IllegalArgumentException("length out of range");
        }
        return state.priceAt(length);
    }

    /** Returns how many coins a best cut of a bar brings, with a table of all shorter bars. */
    public int bestCut(int length) throws IllegalArgumentException {
        if (!inRange(length, 1, LONGEST_BAR)) {
            throw new IllegalArgumentException("length out of range");
        }
        return cuts.coinsByTable(state, length);
    }

    /** Returns the same as bestCut, by trying pieces that do not become longer and the rest of the bar. */
    public int bestCutByTrial(int length) throws IllegalArgumentException {
        if (!inRange(length, 1, LONGEST_BAR)) {
            throw new IllegalArgumentException("length out of range");
        }
        return Cuts.coinsByTrial(state, length);
    }

    /** Returns the least number of pieces of a best cut. */
    public int fewestPieces(int length) throws IllegalArgumentException {
        if (!inRange(length, 1, LONGEST_BAR)) {
            throw new IllegalArgumentException("length out of range");
        }
        return cuts.piecesByTable(state, length);
    }

    /** Sells a bar by a best cut and returns the coins that it brings. */
    public int sell(int length) throws IllegalArgumentException, UnsupportedOperationException {
        int fault = state.faultOfSelling(length);
        if (fault == BAD_ARGUMENT) {
            throw new IllegalArgumentException("length out of range");
        }
        if (fault == TOO_LITTLE) {
            throw new UnsupportedOperationException("too little stone");
        }
        history.remember(state);
        return sellBar(length);
    }

    /** Returns the stone in stock. */
    public int stone() {
        return state.stock;
    }

    /** Returns the stone that was quarried so far. */
    public int quarried() {
        return state.quarriedStone;
    }

    /** Returns the stone that was sold so far. */
    public int sold() {
        return state.soldStone;
    }

    /** Returns the coins. */
    public long coins() {
        return state.purse;
    }

    /** Returns the mean hardness of the rock cells. */
    public double meanHardness() throws ArithmeticException {
        int rock = CELLS - state.countOpen();
        if (rock == 0) {
            throw new ArithmeticException("all cells are open");
        }
        return (double) state.sumOfHardness() / (double) rock;
    }

    /** Returns the share of the open cells. */
    public float openShare() {
        return (float) state.countOpen() / (float) CELLS;
    }

    // Lines and checks.

    /** Writes a row into the line and returns the length of the line. */
    public int writeRow(int row) throws IllegalArgumentException {
        if (!inRange(row, 0, SIDE - 1)) {
            throw new IllegalArgumentException("no such row");
        }
        return line.showRow(state, row);
    }

    /** Writes a charge into the line and returns the length of the line. */
    public int writeCharge(int charge) throws IndexOutOfBoundsException {
        if (!state.hasCharge(charge)) {
            throw new IndexOutOfBoundsException("no such charge");
        }
        return line.showCharge(state, charge);
    }

    /** Returns a character of the line, which is empty at first. */
    public char lineAt(int index) throws IndexOutOfBoundsException {
        if (!line.hasSign(index)) {
            throw new IndexOutOfBoundsException("no such character");
        }
        return line.signAt(index);
    }

    /** Returns whether both ways of each answer agree and the stock is what was quarried minus what was sold. */
    public boolean isConsistent() {
        return chainsAgree() && wallAnswersAgree() && cutsAgree()
                && state.stock == state.quarriedStone - state.soldStone;
    }

    // Text, undo and snapshots.

    /** Appends a character to the text buffer and returns the number of characters in it. */
    public int type(char character) throws IllegalArgumentException, IllegalStateException {
        if (character < CommandText.FIRST_SIGN || character > CommandText.LAST_SIGN) {
            throw new IllegalArgumentException("no such character");
        }
        if (text.isFull()) {
            throw new IllegalStateException("the text buffer is full");
        }
        return text.append(character);
    }

    /** Executes the text in the buffer, all of its commands or none, and returns the number of commands. */
    public int execute() throws IllegalArgumentException, IllegalStateException {
        int error = text.parse();
        text.empty();
        if (error != NONE) {
            lastErrorPosition = error;
            throw new IllegalArgumentException("the text is malformed");
        }
        before.copyFrom(state);
        for (int index = 0; index < text.commandCount; index++) {
            if (!carryOut(text.commandAt(index), index)) {
                state.copyFrom(before);
                lastFailedCommand = index;
                throw new IllegalStateException("a command fails");
            }
        }
        history.remember(before);
        return text.commandCount;
    }

    /** Returns the error position of the last malformed text. */
    public int errorPosition() throws NoSuchElementException {
        if (lastErrorPosition == NONE) {
            throw new NoSuchElementException("no text was malformed");
        }
        return lastErrorPosition;
    }

    /** Returns the index of the command that failed in the last text that had one. */
    public int failedCommand() throws NoSuchElementException {
        if (lastFailedCommand == NONE) {
            throw new NoSuchElementException("no command failed");
        }
        return lastFailedCommand;
    }

    /** Undoes the last modification that can be undone and returns how many can still be undone. */
    public int undo() throws IllegalStateException {
        if (history.remembered == 0) {
            throw new IllegalStateException("nothing can be undone");
        }
        return history.takeBack(state);
    }

    /** Saves the state as a snapshot, which replaces an earlier one, and returns the number of charges. */
    public int save() {
        snapshot.copyFrom(state);
        snapshotTaken = true;
        return state.charges;
    }

    /** Restores the snapshot, which is kept, forgets what could be undone, and returns the number of charges. */
    public int restore() throws IllegalStateException {
        if (!snapshotTaken) {
            throw new IllegalStateException("there is no snapshot");
        }
        state.copyFrom(snapshot);
        history.forget();
        return state.charges;
    }

    // Steps that several calls of the face share.

    private int blowUp(int charge) {
        blast.run(state, charge);
        state.applyBlast(blast);
        return blast.openedCount;
    }

    private int sellBar(int length) {
        int coins = cuts.coinsByTable(state, length);
        state.handOver(length, coins);
        return coins;
    }

    private boolean chainsAgree() {
        for (int charge = 0; charge < state.charges; charge++) {
            int byRounds = blast.countByRounds(state, charge);
            blast.run(state, charge);
            if (blast.explodedCount != byRounds) {
                return false;
            }
        }
        return true;
    }

    private boolean wallAnswersAgree() {
        return tunnels.costByNearest(state) == tunnels.costByRounds(state)
                && slabs.countByMoving(state) == slabs.countByCells(state)
                && blocks.sizeByRectangles(state) == blocks.sizeByHeights(state);
    }

    private boolean cutsAgree() {
        for (int length = 1; length <= LONGEST_CHECKED_BAR; length++) {
            int byTrial = Cuts.coinsByTrial(state, length);
            if (cuts.coinsByTable(state, length) != byTrial) {
                return false;
            }
        }
        return true;
    }

    /** Carries out a command of the text if its method would not throw, and returns whether it did. */
    private boolean carryOut(Command command, int index) {
        if (command == null) {
            return false;
        }
        int first = text.parameterAt(index, 0);
        int second = text.parameterAt(index, 1);
        int third = text.parameterAt(index, 2);
        if (faultOfCommand(command, first, second, third) != FINE) {
            return false;
        }
        switch (command) {
            case ROCK:
                state.harden(cellAt(first, second), third);
                break;
            case CHARGE:
                state.lay(cellAt(first, second), third);
                break;
            case REMOVE:
                state.takeAway(first);
                break;
            case IGNITE:
                blowUp(first);
                break;
            case DIG:
                state.digOut(cellAt(first, second));
                break;
            case PRICE:
                state.putPrice(first, second);
                break;
            default:
                sellBar(first);
                break;
        }
        return true;
    }

    private int faultOfCommand(Command command, int first, int second, int third) {
        switch (command) {
            case ROCK:
                return state.faultOfHardness(first, second, third);
            case CHARGE:
                return state.faultOfLaying(first, second, third);
            case REMOVE:
            case IGNITE:
                return state.hasCharge(first) ? FINE : BAD_ARGUMENT;
            case DIG:
                return state.faultOfDigging(first, second);
            case PRICE:
                return state.faultOfPrice(first, second);
            default:
                return state.faultOfSelling(first);
        }
    }

    // Numbers and places.

    private static boolean inRange(int number, int least, int most) {
        return number >= least && number <= most;
    }

    private static boolean isCell(int cell) {
        return cell >= 0 && cell < CELLS;
    }

    /** Returns the number of a cell, or NONE if there is no such cell. */
    private static int cellAt(int row, int column) {
        if (row < 0 || row >= SIDE || column < 0 || column >= SIDE) {
            return NONE;
        }
        return row * SIDE + column;
    }

    /** Returns the neighbour of a cell in a direction from 0 to 3, or NONE if the wall ends there. */
    private static int neighbourOf(int cell, int direction) {
        int row = cell / SIDE;
        int column = cell % SIDE;
        switch (direction) {
            case 0:
                return cellAt(row - 1, column);
            case 1:
                return cellAt(row, column + 1);
            case 2:
                return cellAt(row + 1, column);
            case 3:
                return cellAt(row, column - 1);
            default:
                return NONE;
        }
    }

    private static int distance(int cell, int other) {
        return Math.abs(cell / SIDE - other / SIDE) + Math.abs(cell % SIDE - other % SIDE);
    }

    private static void clear(boolean[] marks) {
        for (int index = 0; index < marks.length; index++) {
            marks[index] = false;
        }
    }

    /** All that a modification can change, and that undo and restore bring back. */
    private static final class QuarryState {
        private final int[] hardness = new int[CELLS];
        private final int[] chargeCells = new int[MOST_CHARGES];
        private final int[] strengths = new int[MOST_CHARGES];
        private final int[] prices = new int[LONGEST_PIECE + 1];
        int charges;
        int stock;
        int quarriedStone;
        int soldStone;
        long purse;

        QuarryState() {
            Arrays.fill(hardness, FIRST_HARDNESS);
        }

        void copyFrom(QuarryState other) {
            System.arraycopy(other.hardness, 0, hardness, 0, CELLS);
            System.arraycopy(other.chargeCells, 0, chargeCells, 0, MOST_CHARGES);
            System.arraycopy(other.strengths, 0, strengths, 0, MOST_CHARGES);
            System.arraycopy(other.prices, 0, prices, 0, LONGEST_PIECE + 1);
            charges = other.charges;
            stock = other.stock;
            quarriedStone = other.quarriedStone;
            soldStone = other.soldStone;
            purse = other.purse;
        }

        int hardnessAt(int cell) {
            return isCell(cell) ? hardness[cell] : OPEN;
        }

        boolean openAt(int cell) {
            return isCell(cell) && hardness[cell] == OPEN;
        }

        /** Whether a cell becomes open by a blast of which this power is left there. */
        boolean breaksAt(int cell, int power) {
            return isCell(cell) && hardness[cell] != OPEN && hardness[cell] <= power;
        }

        int countOpen() {
            int open = 0;
            for (int cell = 0; cell < CELLS; cell++) {
                if (hardness[cell] == OPEN) {
                    open++;
                }
            }
            return open;
        }

        int sumOfHardness() {
            int sum = 0;
            for (int cell = 0; cell < CELLS; cell++) {
                sum += hardness[cell];
            }
            return sum;
        }

        boolean hasCharge(int charge) {
            return charge >= 0 && charge < charges && charge < MOST_CHARGES;
        }

        int cellOf(int charge) {
            return hasCharge(charge) ? chargeCells[charge] : 0;
        }

        int strengthOf(int charge) {
            return hasCharge(charge) ? strengths[charge] : 0;
        }

        boolean chargedAt(int cell) {
            for (int charge = 0; charge < charges; charge++) {
                if (cellOf(charge) == cell) {
                    return true;
                }
            }
            return false;
        }

        int priceAt(int length) {
            return inRange(length, 1, LONGEST_PIECE) ? prices[length] : 0;
        }

        int faultOfHardness(int row, int column, int newHardness) {
            int cell = cellAt(row, column);
            if (cell == NONE || !inRange(newHardness, 1, MOST_HARDNESS)) {
                return BAD_ARGUMENT;
            }
            return openAt(cell) ? BAD_STATE : FINE;
        }

        int faultOfDigging(int row, int column) {
            int cell = cellAt(row, column);
            if (cell == NONE) {
                return BAD_ARGUMENT;
            }
            if (openAt(cell) || chargedAt(cell) || !canBeReached(cell)) {
                return BAD_STATE;
            }
            return purse < hardnessAt(cell) ? TOO_LITTLE : FINE;
        }

        private boolean canBeReached(int cell) {
            if (cell % SIDE == 0) {
                return true;
            }
            for (int direction = 0; direction < DIRECTIONS; direction++) {
                if (openAt(neighbourOf(cell, direction))) {
                    return true;
                }
            }
            return false;
        }

        int faultOfLaying(int row, int column, int strength) {
            int cell = cellAt(row, column);
            if (cell == NONE || !inRange(strength, 1, MOST_STRENGTH)) {
                return BAD_ARGUMENT;
            }
            return charges >= MOST_CHARGES || openAt(cell) || chargedAt(cell) ? BAD_STATE : FINE;
        }

        int faultOfPrice(int length, int price) {
            return inRange(length, 1, LONGEST_PIECE) && inRange(price, 0, MOST_PRICE) ? FINE : BAD_ARGUMENT;
        }

        int faultOfSelling(int length) {
            if (!inRange(length, 1, LONGEST_BAR)) {
                return BAD_ARGUMENT;
            }
            return stock < length ? TOO_LITTLE : FINE;
        }

        int harden(int cell, int newHardness) {
            if (!isCell(cell)) {
                return OPEN;
            }
            int previous = hardness[cell];
            hardness[cell] = newHardness;
            return previous;
        }

        private void makeOpen(int cell) {
            int tonnes = harden(cell, OPEN);
            quarriedStone += tonnes;
            stock += tonnes;
        }

        long digOut(int cell) {
            purse -= hardnessAt(cell);
            makeOpen(cell);
            return purse;
        }

        int lay(int cell, int strength) {
            int number = charges;
            if (inRange(number, 0, MOST_CHARGES - 1)) {
                chargeCells[number] = cell;
                strengths[number] = strength;
                charges++;
            }
            return number;
        }

        int takeAway(int charge) {
            int kept = 0;
            for (int old = 0; old < charges; old++) {
                if (old != charge) {
                    renumber(old, kept);
                    kept++;
                }
            }
            charges = kept;
            return kept;
        }

        void applyBlast(Blast blast) {
            for (int cell = 0; cell < CELLS; cell++) {
                if (blast.opens(cell)) {
                    makeOpen(cell);
                }
            }
            int kept = 0;
            for (int old = 0; old < charges; old++) {
                if (!blast.explodes(old)) {
                    renumber(old, kept);
                    kept++;
                }
            }
            charges = kept;
        }

        private void renumber(int old, int number) {
            if (hasCharge(old) && hasCharge(number)) {
                chargeCells[number] = chargeCells[old];
                strengths[number] = strengths[old];
            }
        }

        int putPrice(int length, int price) {
            int previous = priceAt(length);
            if (inRange(length, 1, LONGEST_PIECE)) {
                prices[length] = price;
            }
            return previous;
        }

        void handOver(int length, int coins) {
            stock -= length;
            soldStone += length;
            purse += coins;
        }
    }

    /** The states before the last modifications, in a ring. */
    private static final class History {
        private final QuarryState[] ring = new QuarryState[MOST_UNDOS];
        private int next;
        int remembered;

        History() {
            for (int index = 0; index < MOST_UNDOS; index++) {
                ring[index] = new QuarryState();
            }
        }

        void remember(QuarryState state) {
            QuarryState place = placeAt(next);
            if (place != null) {
                place.copyFrom(state);
            }
            next = next + 1 < MOST_UNDOS ? next + 1 : 0;
            remembered = Math.min(remembered + 1, MOST_UNDOS);
        }

        int takeBack(QuarryState state) {
            if (remembered > 0) {
                next = next > 0 ? next - 1 : MOST_UNDOS - 1;
                remembered--;
                QuarryState place = placeAt(next);
                if (place != null) {
                    state.copyFrom(place);
                }
            }
            return remembered;
        }

        void forget() {
            remembered = 0;
        }

        private QuarryState placeAt(int index) {
            return inRange(index, 0, MOST_UNDOS - 1) ? ring[index] : null;
        }
    }

    /** Finds the cells that are connected by steps between neighbours of equal hardness. */
    private static final class Veins {
        private final boolean[] found = new boolean[CELLS];
        private final int[] order = new int[CELLS];
        private int foundCount;

        int sizeFrom(QuarryState state, int cell) {
            clear(found);
            return follow(state, cell);
        }

        int countOf(QuarryState state, int hardness) {
            clear(found);
            int count = 0;
            for (int cell = 0; cell < CELLS; cell++) {
                if (!found[cell] && state.hardnessAt(cell) == hardness) {
                    follow(state, cell);
                    count++;
                }
            }
            return count;
        }

        private int follow(QuarryState state, int start) {
            foundCount = 0;
            add(start);
            for (int index = 0; index < CELLS; index++) {
                if (index >= foundCount) {
                    break;
                }
                addEqualNeighbours(state, order[index]);
            }
            return foundCount;
        }

        private void addEqualNeighbours(QuarryState state, int cell) {
            for (int direction = 0; direction < DIRECTIONS; direction++) {
                int neighbour = neighbourOf(cell, direction);
                if (neighbour != NONE && state.hardnessAt(neighbour) == state.hardnessAt(cell)) {
                    add(neighbour);
                }
            }
        }

        private void add(int cell) {
            if (isCell(cell) && !found[cell] && inRange(foundCount, 0, CELLS - 1)) {
                found[cell] = true;
                order[foundCount] = cell;
                foundCount++;
            }
        }
    }

    /** Finds the charges that explode and the cells that become open, without a change of the state. */
    private static final class Blast {
        private final boolean[] exploded = new boolean[MOST_CHARGES];
        private final boolean[] opened = new boolean[CELLS];
        private final int[] order = new int[MOST_CHARGES];
        int explodedCount;
        int openedCount;

        void run(QuarryState state, int first) {
            reset();
            setOff(first);
            for (int index = 0; index < MOST_CHARGES; index++) {
                if (index >= explodedCount) {
                    break;
                }
                openAround(state, order[index]);
                setOffOpened(state);
            }
        }

        int countByRounds(QuarryState state, int first) {
            reset();
            setOff(first);
            boolean changed = true;
            for (int round = 0; round < MOST_CHARGES && changed; round++) {
                changed = askAll(state);
            }
            return explodedCount;
        }

        boolean explodes(int charge) {
            return inRange(charge, 0, MOST_CHARGES - 1) && exploded[charge];
        }

        boolean opens(int cell) {
            return isCell(cell) && opened[cell];
        }

        private void reset() {
            clear(exploded);
            clear(opened);
            explodedCount = 0;
            openedCount = 0;
        }

        private void setOff(int charge) {
            if (inRange(charge, 0, MOST_CHARGES - 1) && !exploded[charge]
                    && inRange(explodedCount, 0, MOST_CHARGES - 1)) {
                exploded[charge] = true;
                order[explodedCount] = charge;
                explodedCount++;
            }
        }

        private void openAround(QuarryState state, int charge) {
            int center = state.cellOf(charge);
            int strength = state.strengthOf(charge);
            for (int cell = 0; cell < CELLS; cell++) {
                if (!opened[cell] && state.breaksAt(cell, strength - distance(cell, center))) {
                    opened[cell] = true;
                    openedCount++;
                }
            }
        }

        private void setOffOpened(QuarryState state) {
            for (int charge = 0; charge < state.charges; charge++) {
                if (opens(state.cellOf(charge))) {
                    setOff(charge);
                }
            }
        }

        private boolean askAll(QuarryState state) {
            int countBefore = explodedCount;
            for (int charge = 0; charge < state.charges; charge++) {
                if (explodes(charge)) {
                    setOffReached(state, charge);
                }
            }
            return explodedCount != countBefore;
        }

        private void setOffReached(QuarryState state, int charge) {
            int center = state.cellOf(charge);
            int strength = state.strengthOf(charge);
            for (int other = 0; other < state.charges; other++) {
                int cell = state.cellOf(other);
                if (other != charge && state.breaksAt(cell, strength - distance(cell, center))) {
                    setOff(other);
                }
            }
        }
    }

    /** Finds the cheapest way from column 0 to column 5. */
    private static final class Tunnels {
        private static final int NOT_REACHED = 1000000;

        private final int[] cost = new int[CELLS];
        private final boolean[] settled = new boolean[CELLS];

        int costByNearest(QuarryState state) {
            start(state);
            clear(settled);
            for (int step = 0; step < CELLS; step++) {
                int cell = nearest();
                if (!isCell(cell)) {
                    break;
                }
                if (cell % SIDE == SIDE - 1) {
                    return cost[cell];
                }
                settled[cell] = true;
                goOn(state, cell);
            }
            return leastAtEnd();
        }

        int costByRounds(QuarryState state) {
            start(state);
            boolean changed = true;
            for (int round = 0; round < CELLS && changed; round++) {
                changed = false;
                for (int cell = 0; cell < CELLS; cell++) {
                    changed = goOn(state, cell) || changed;
                }
            }
            return leastAtEnd();
        }

        private void start(QuarryState state) {
            for (int cell = 0; cell < CELLS; cell++) {
                cost[cell] = cell % SIDE == 0 ? state.hardnessAt(cell) : NOT_REACHED;
            }
        }

        private int nearest() {
            int best = NONE;
            int least = NOT_REACHED;
            for (int cell = 0; cell < CELLS; cell++) {
                if (!settled[cell] && cost[cell] < least) {
                    best = cell;
                    least = cost[cell];
                }
            }
            return best;
        }

        private boolean goOn(QuarryState state, int cell) {
            boolean changed = false;
            for (int direction = 0; direction < DIRECTIONS; direction++) {
                int neighbour = neighbourOf(cell, direction);
                if (isCell(cell) && isCell(neighbour)
                        && cost[cell] + state.hardnessAt(neighbour) < cost[neighbour]) {
                    cost[neighbour] = cost[cell] + state.hardnessAt(neighbour);
                    changed = true;
                }
            }
            return changed;
        }

        private int leastAtEnd() {
            int least = NOT_REACHED;
            for (int row = 0; row < SIDE; row++) {
                least = Math.min(least, cost[row * SIDE + SIDE - 1]);
            }
            return least;
        }
    }

    /** Finds the greatest number of slabs that fit into the open cells. */
    private static final class Slabs {
        private static final int COVERINGS = 64;

        private final int[] partner = new int[CELLS];
        private final boolean[] asked = new boolean[CELLS];
        private final int[] most = new int[COVERINGS];
        private final int[] mostNext = new int[COVERINGS];

        int countByMoving(QuarryState state) {
            Arrays.fill(partner, NONE);
            int count = 0;
            for (int cell = 0; cell < CELLS; cell++) {
                if ((cell / SIDE + cell % SIDE) % 2 == 0 && state.openAt(cell)) {
                    clear(asked);
                    if (makeRoom(this, state, cell, 0)) {
                        count++;
                    }
                }
            }
            return count;
        }

        /** Puts a slab on a cell, and moves other slabs away from its neighbours if it must. */
        private static boolean makeRoom(Slabs slabs, QuarryState state, int cell, int depth) {
            if (depth >= CELLS) {
                return false;
            }
            for (int direction = 0; direction < DIRECTIONS; direction++) {
                int neighbour = neighbourOf(cell, direction);
                if (isCell(neighbour) && state.openAt(neighbour) && !slabs.asked[neighbour]) {
                    slabs.asked[neighbour] = true;
                    int other = slabs.partner[neighbour];
                    if (other == NONE || makeRoom(slabs, state, other, depth + 1)) {
                        slabs.partner[neighbour] = cell;
                        return true;
                    }
                }
            }
            return false;
        }

        int countByCells(QuarryState state) {
            Arrays.fill(most, NONE);
            most[0] = 0;
            for (int cell = 0; cell < CELLS; cell++) {
                Arrays.fill(mostNext, NONE);
                for (int covered = 0; covered < COVERINGS; covered++) {
                    if (most[covered] != NONE) {
                        passCell(state, cell, covered);
                    }
                }
                System.arraycopy(mostNext, 0, most, 0, COVERINGS);
            }
            return most[0];
        }

        /** Bit k of covered tells whether the k-th cell from this one on is covered already. */
        private void passCell(QuarryState state, int cell, int covered) {
            int slabs = covered >= 0 && covered < COVERINGS ? most[covered] : NONE;
            int rest = covered >> 1;
            reach(rest, slabs);
            if ((covered & 1) != 0 || !state.openAt(cell)) {
                return;
            }
            if (cell % SIDE < SIDE - 1 && state.openAt(cell + 1) && (rest & 1) == 0) {
                reach(rest | 1, slabs + 1);
            }
            if (state.openAt(cell + SIDE)) {
                reach(rest | 1 << SIDE - 1, slabs + 1);
            }
        }

        private void reach(int covered, int slabs) {
            if (covered >= 0 && covered < COVERINGS && slabs > mostNext[covered]) {
                mostNext[covered] = slabs;
            }
        }
    }

    /** Finds the largest rectangle of open cells. */
    private static final class Blocks {
        private final int[] heights = new int[SIDE];

        int sizeByRectangles(QuarryState state) {
            int largest = 0;
            for (int top = 0; top < SIDE; top++) {
                for (int left = 0; left < SIDE; left++) {
                    largest = Math.max(largest, largestFromCorner(state, top, left));
                }
            }
            return largest;
        }

        private static int largestFromCorner(QuarryState state, int top, int left) {
            int largest = 0;
            for (int bottom = top; bottom < SIDE; bottom++) {
                for (int right = left; right < SIDE; right++) {
                    int size = (bottom - top + 1) * (right - left + 1);
                    if (size > largest && allOpen(state, top, left, bottom, right)) {
                        largest = size;
                    }
                }
            }
            return largest;
        }

        private static boolean allOpen(QuarryState state, int top, int left, int bottom, int right) {
            for (int row = top; row <= bottom; row++) {
                for (int column = left; column <= right; column++) {
                    if (!state.openAt(cellAt(row, column))) {
                        return false;
                    }
                }
            }
            return true;
        }

        int sizeByHeights(QuarryState state) {
            Arrays.fill(heights, 0);
            int largest = 0;
            for (int row = 0; row < SIDE; row++) {
                for (int column = 0; column < SIDE; column++) {
                    heights[column] = state.openAt(cellAt(row, column)) ? heights[column] + 1 : 0;
                }
                largest = Math.max(largest, largestUnderHeights());
            }
            return largest;
        }

        private int largestUnderHeights() {
            int largest = 0;
            for (int left = 0; left < SIDE; left++) {
                int lowest = SIDE;
                for (int right = left; right < SIDE; right++) {
                    lowest = Math.min(lowest, heights[right]);
                    largest = Math.max(largest, lowest * (right - left + 1));
                }
            }
            return largest;
        }
    }

    /** Finds the best cuts of bars. */
    private static final class Cuts {
        private final int[] coins = new int[LONGEST_BAR + 1];
        private final int[] pieces = new int[LONGEST_BAR + 1];

        int coinsByTable(QuarryState state, int length) {
            fillTable(state);
            return inRange(length, 0, LONGEST_BAR) ? coins[length] : 0;
        }

        int piecesByTable(QuarryState state, int length) {
            fillTable(state);
            return inRange(length, 0, LONGEST_BAR) ? pieces[length] : 0;
        }

        private void fillTable(QuarryState state) {
            coins[0] = 0;
            pieces[0] = 0;
            for (int bar = 1; bar <= LONGEST_BAR; bar++) {
                coins[bar] = NONE;
                pieces[bar] = 0;
                for (int piece = 1; piece <= LONGEST_PIECE && piece <= bar; piece++) {
                    int newCoins = coins[bar - piece] + state.priceAt(piece);
                    int newPieces = pieces[bar - piece] + 1;
                    if (newCoins > coins[bar] || newCoins == coins[bar] && newPieces < pieces[bar]) {
                        coins[bar] = newCoins;
                        pieces[bar] = newPieces;
                    }
                }
            }
        }

        static int coinsByTrial(QuarryState state, int length) {
            return tryPieces(state, length, LONGEST_PIECE, 0);
        }

        private static int tryPieces(QuarryState state, int rest, int longest, int depth) {
            if (depth > LONGEST_BAR) {
                return 0;
            }
            int best = 0;
            for (int piece = 1; piece <= longest && piece <= rest; piece++) {
                best = Math.max(best, state.priceAt(piece) + tryPieces(state, rest - piece, piece, depth + 1));
            }
            return best;
        }
    }

    /** The line that writeRow and writeCharge write and lineAt reads. */
    private static final class Line {
        private static final int LONGEST = 7;

        private final char[] signs = new char[LONGEST];
        private int length;

        int showRow(QuarryState state, int row) {
            length = 0;
            for (int column = 0; column < SIDE; column++) {
                put(signOf(state, cellAt(row, column)));
            }
            return length;
        }

        int showCharge(QuarryState state, int charge) {
            int cell = state.cellOf(charge);
            length = 0;
            put(digit(charge));
            put('@');
            put(digit(cell / SIDE));
            put(',');
            put(digit(cell % SIDE));
            put(':');
            put(digit(state.strengthOf(charge)));
            return length;
        }

        boolean hasSign(int index) {
            return index >= 0 && index < length && index < LONGEST;
        }

        char signAt(int index) {
            return hasSign(index) ? signs[index] : ' ';
        }

        private void put(char sign) {
            if (inRange(length, 0, LONGEST - 1)) {
                signs[length] = sign;
                length++;
            }
        }

        private static char signOf(QuarryState state, int cell) {
            if (state.chargedAt(cell)) {
                return '*';
            }
            return state.openAt(cell) ? '.' : digit(state.hardnessAt(cell));
        }

        private static char digit(int number) {
            return (char) ('0' + number);
        }
    }

    /** A command of the text: its word, how many parameters follow, and how many digits each has at most. */
    private enum Command {
        ROCK("rock", 3, 1),
        CHARGE("charge", 3, 1),
        REMOVE("remove", 1, 1),
        IGNITE("ignite", 1, 1),
        DIG("dig", 2, 1),
        PRICE("price", 2, 2),
        SELL("sell", 1, 2);

        final String word;
        final int parameters;
        final int digits;

        Command(String word, int parameters, int digits) {
            this.word = word;
            this.parameters = parameters;
            this.digits = digits;
        }
    }

    /** The text buffer, and the commands of the text that was parsed last. */
    private static final class CommandText {
        static final char FIRST_SIGN = 32;
        static final char LAST_SIGN = 126;
        private static final Command[] COMMANDS = Command.values();
        private static final int CAPACITY = 60;
        private static final int MOST_COMMANDS = 10;
        private static final int MOST_PARAMETERS = 3;

        private final char[] signs = new char[CAPACITY];
        private final Command[] commands = new Command[MOST_COMMANDS];
        private final int[] parameters = new int[MOST_COMMANDS * MOST_PARAMETERS];
        private int length;
        private int position;
        int commandCount;

        boolean isFull() {
            return length >= CAPACITY;
        }

        int append(char sign) {
            if (inRange(length, 0, CAPACITY - 1)) {
                signs[length] = sign;
                length++;
            }
            return length;
        }

        void empty() {
            length = 0;
        }

        Command commandAt(int index) {
            return inRange(index, 0, MOST_COMMANDS - 1) ? commands[index] : null;
        }

        int parameterAt(int index, int number) {
            int place = index * MOST_PARAMETERS + number;
            return inRange(place, 0, parameters.length - 1) ? parameters[place] : 0;
        }

        /** Reads the commands of the text, and returns its error position, or NONE if it is well formed. */
        int parse() {
            position = 0;
            commandCount = 0;
            for (int index = 0; index < MOST_COMMANDS; index++) {
                if (!readCommand(index)) {
                    return position;
                }
                commandCount++;
                if (position == length) {
                    return NONE;
                }
                if (!nextIs(';')) {
                    return position;
                }
                position++;
            }
            return position;
        }

        private boolean readCommand(int index) {
            Command command = readWord();
            if (command == null || !inRange(index, 0, MOST_COMMANDS - 1)) {
                return false;
            }
            commands[index] = command;
            for (int number = 0; number < command.parameters; number++) {
                int value = readNumber(command.digits);
                int place = index * MOST_PARAMETERS + number;
                if (value == NONE || !inRange(place, 0, parameters.length - 1)) {
                    return false;
                }
                parameters[place] = value;
            }
            return true;
        }

        /** Reads the word of a command; without one, returns null behind the longest start of such a word. */
        private Command readWord() {
            int longest = 0;
            for (Command command : COMMANDS) {
                int common = commonStart(command.word);
                if (common == command.word.length()) {
                    position += common;
                    return command;
                }
                longest = Math.max(longest, common);
            }
            position += longest;
            return null;
        }

        private int commonStart(String word) {
            for (int index = 0; index < word.length(); index++) {
                if (!signIs(position + index, word.charAt(index))) {
                    return index;
                }
            }
            return word.length();
        }

        /** Reads a blank and a number, and returns NONE at the first character that does not fit. */
        private int readNumber(int digits) {
            if (!nextIs(' ')) {
                return NONE;
            }
            position++;
            int value = nextDigit();
            if (value == NONE) {
                return NONE;
            }
            position++;
            int second = digits > 1 ? nextDigit() : NONE;
            if (second == NONE) {
                return value;
            }
            position++;
            return value * 10 + second;
        }

        private int nextDigit() {
            for (int value = 0; value <= 9; value++) {
                if (nextIs((char) ('0' + value))) {
                    return value;
                }
            }
            return NONE;
        }

        private boolean nextIs(char sign) {
            return signIs(position, sign);
        }

        private boolean signIs(int index, char sign) {
            return index >= 0 && index < length && index < CAPACITY && signs[index] == sign;
        }
    }
}
