import java.util.ArrayList;
import java.util.Arrays;

/** Counters of a town at which things are left; ../shared/DOC.md promises what each call does. */
public final class LeftThings {
    private static final int COUNTERS = 5;
    private static final int PERSONS = 8;
    private static final int MOST_THINGS = 24;
    private static final int MOST_SIZE = 3;
    private static final int MOST_ROOM = 30;
    private static final int FIRST_ROOM = 10;
    private static final int FIRST_VAN_ROOM = 6;
    private static final int FIRST_WORTH_BY_SIZE = 20;
    private static final int MOST_WORTH = 10000;
    private static final int MOST_SUM = 5000;
    private static final int FEE_BY_SIZE = 2;
    private static final int FEE_BY_SIZE_WITH_LOAN = 1;
    private static final int DAYS_TO_REPAY = 3;
    private static final int DAYS_UNTIL_SOLD = 30;
    private static final int MOST_DAYS_AT_ONCE = 40;
    private static final int LAST_DAY = 1000;

    private static final int FETCHED = 10;
    private static final int SOLD = 11;
    private static final int NOT_LEFT_YET = 12;

    private static final int NOWHERE = -1;
    private static final int NOBODY = -1;
    private static final int NEVER = -1;

    private final int[] rooms = new int[COUNTERS];
    private final int[] purses = new int[PERSONS];
    private final ArrayList<Thing> leftThings = new ArrayList<>();
    private final ArrayList<Thing> wishes = new ArrayList<>();
    private int vanRoom = FIRST_VAN_ROOM;
    private int today = 0;
    private int takenFees = 0;

    /** What the log says of one thing: where it is from the beginning of a day on. */
    private static final class Tag {
        private final int place;
        private final int fromDay;
        private final Tag before;

        private Tag(int place, int fromDay, Tag before) {
            this.place = place;
            this.fromDay = fromDay;
            this.before = before;
        }
    }

    private static final class Thing {
        private final int number;
        private final int owner;
        private final int size;
        private final int leftOn;
        private int worth;
        private int place;
        private Tag newestTag;
        private int wantedAt = NOWHERE;
        // What it owes while it is at a counter, what it paid afterwards.
        private int feeSum = 0;
        private int loanSum = 0;
        private int lender = NOBODY;
        private int repayBy = NEVER;

        private Thing(int number, int owner, int size, int counter, int today) {
            this.number = number;
            this.owner = owner;
            this.size = size;
            this.leftOn = today;
            this.worth = FIRST_WORTH_BY_SIZE * size;
            this.place = counter;
            this.newestTag = new Tag(counter, today + 1, null);
        }

        private boolean isAtCounter() {
            return isCounter(place);
        }

        private boolean hasLoan() {
            return loanSum > 0;
        }

        private boolean isCalled() {
            return repayBy != NEVER;
        }

        private void beginLoan(int lender, int sum) {
            this.lender = lender;
            loanSum = sum;
        }

        private void endLoan() {
            lender = NOBODY;
            loanSum = 0;
            repayBy = NEVER;
        }

        private void moveTo(int newPlace, int today) {
            place = newPlace;
            // The log tells of the beginnings of days, and today's is over.
            newestTag = new Tag(newPlace, today + 1, newestTag);
        }

        private int placeAtBeginningOf(int day) {
            for (Tag tag = newestTag; tag != null; tag = tag.before) {
                if (tag.fromDay <= day) {
                    return tag.place;
                }
            }
            return NOT_LEFT_YET;
        }
    }

    public LeftThings() {
        Arrays.fill(rooms, FIRST_ROOM);
    }

    // ---- settings

    public int setRoom(int counter, int room) throws IllegalArgumentException {
        if (!isCounter(counter) || !isRoom(room)) {
            throw new IllegalArgumentException("counter or room is out of range");
        }
        int before = rooms[counter];
        rooms[counter] = room;
        return before;
    }

    public int setVan(int room) throws IllegalArgumentException {
        if (!isRoom(room)) {
            throw new IllegalArgumentException("room is out of range");
        }
        int before = vanRoom;
        vanRoom = room;
        return before;
    }

    // ---- things

    public int leave(int owner, int size, int counter)
            throws IllegalArgumentException, IllegalStateException {
        if (!isPerson(owner) || size < 1 || size > MOST_SIZE || !isCounter(counter)) {
            throw new IllegalArgumentException("owner, size or counter is out of range");
        }
        int number = leftThings.size();
        if (number >= MOST_THINGS || !hasRoomFor(counter, size)) {
            throw new IllegalStateException("no room for it, or too many things");
        }
        leftThings.add(new Thing(number, owner, size, counter, today));
        return number;
    }

    public int fetch(int thing) throws IndexOutOfBoundsException, IllegalStateException {
        Thing fetched = thingNumbered(thing);
        if (!fetched.isAtCounter() || fetched.hasLoan()) {
            throw new IllegalStateException("it is not at a counter, or has a loan");
        }
        int paid = fetched.feeSum;
        giveAway(fetched, paid, FETCHED);
        return paid;
    }

    public int want(int thing, int counter)
            throws IndexOutOfBoundsException, IllegalArgumentException, IllegalStateException {
        Thing wanted = thingNumbered(thing);
        if (!isCounter(counter)) {
            throw new IllegalArgumentException("counter is out of range");
        }
        if (!wanted.isAtCounter() || wanted.place == counter) {
            throw new IllegalStateException("it is not at a counter, or is at this one");
        }
        // An older wish is dropped first, so that the newer one comes behind all others.
        wanted.wantedAt = NOWHERE;
        dropEndedWishes();
        wanted.wantedAt = counter;
        wishes.add(wanted);
        return wishes.size();
    }

    public int value(int thing, int worth)
            throws IndexOutOfBoundsException, IllegalArgumentException, IllegalStateException {
        Thing valued = thingNumbered(thing);
        if (worth < 0 || worth > MOST_WORTH) {
            throw new IllegalArgumentException("worth is out of range");
        }
        if (!valued.isAtCounter()) {
            throw new IllegalStateException("it is not at a counter");
        }
        int before = valued.worth;
        valued.worth = worth;
        return before;
    }

    // ---- loans

    public void lend(int thing, int lender, int sum)
            throws IndexOutOfBoundsException, IllegalArgumentException, IllegalStateException {
        Thing pledge = thingNumbered(thing);
        if (!isPerson(lender) || sum < 1 || sum > MOST_SUM) {
            throw new IllegalArgumentException("lender or sum is out of range");
        }
        if (!pledge.isAtCounter() || pledge.hasLoan()) {
            throw new IllegalStateException("it is not at a counter, or has a loan");
        }
        if (lender == pledge.owner || sum > pledge.worth / 2) {
            throw new IllegalStateException("the lender is its owner, or the sum is too high");
        }
        pledge.beginLoan(lender, sum);
        putIntoPurse(pledge.owner, sum);
    }

    public int repay(int thing) throws IndexOutOfBoundsException, IllegalStateException {
        Thing pledge = thingNumbered(thing);
        if (!pledge.hasLoan()) {
            throw new IllegalStateException("it has no loan");
        }
        int sum = pledge.loanSum;
        putIntoPurse(pledge.lender, sum);
        pledge.endLoan();
        return sum;
    }

    public int doubt(int thing) throws IndexOutOfBoundsException, IllegalStateException {
        Thing pledge = thingNumbered(thing);
        if (!pledge.hasLoan() || pledge.isCalled()) {
            throw new IllegalStateException("it has no loan, or that was doubted");
        }
        pledge.repayBy = today + DAYS_TO_REPAY;
        return pledge.repayBy;
    }

    // ---- days

    public int pass(int days) throws IllegalArgumentException, IllegalStateException {
        if (days < 1 || days > MOST_DAYS_AT_ONCE) {
            throw new IllegalArgumentException("days is out of range");
        }
        if (today + days > LAST_DAY) {
            throw new IllegalStateException("the day would be above the last one");
        }
        int sold = 0;
        for (int ended = 0; ended < days; ended++) {
            sold += endDay();
        }
        return sold;
    }

    public int day() {
        return today;
    }

    // ---- what is

    public int things() {
        return leftThings.size();
    }

    public int where(int thing) throws IndexOutOfBoundsException {
        return thingNumbered(thing).place;
    }

    public int whereOn(int thing, int day)
            throws IndexOutOfBoundsException, IllegalArgumentException {
        Thing sought = thingNumbered(thing);
        if (day < 0 || day > today) {
            throw new IllegalArgumentException("day is out of range");
        }
        return day == today ? sought.place : sought.placeAtBeginningOf(day);
    }

    public int load(int counter) throws IllegalArgumentException {
        if (!isCounter(counter)) {
            throw new IllegalArgumentException("counter is out of range");
        }
        return sizesAt(counter);
    }

    public int fees(int thing) throws IndexOutOfBoundsException {
        return thingNumbered(thing).feeSum;
    }

    public int loan(int thing) throws IndexOutOfBoundsException {
        return thingNumbered(thing).loanSum;
    }

    public int purse(int person) throws IllegalArgumentException {
        if (!isPerson(person)) {
            throw new IllegalArgumentException("person is out of range");
        }
        return purses[person];
    }

    public int taken() {
        return takenFees;
    }

    public int wish(int place) throws IndexOutOfBoundsException {
        if (place < 0 || place >= wishes.size()) {
            throw new IndexOutOfBoundsException("there are not so many wishes");
        }
        return wishes.get(place).number;
    }

    // ---- ranges

    private static boolean isCounter(int counter) {
        return counter >= 0 && counter < COUNTERS;
    }

    private static boolean isPerson(int person) {
        return person >= 0 && person < PERSONS;
    }

    private static boolean isRoom(int room) {
        return room >= 0 && room <= MOST_ROOM;
    }

    private Thing thingNumbered(int number) throws IndexOutOfBoundsException {
        if (number < 0 || number >= leftThings.size()) {
            throw new IndexOutOfBoundsException("there is no such thing");
        }
        return leftThings.get(number);
    }

    // ---- shelves, purses and wishes

    private int sizesAt(int counter) {
        int sum = 0;
        for (int i = 0; i < leftThings.size(); i++) {
            Thing thing = leftThings.get(i);
            if (thing.place == counter) {
                sum += thing.size;
            }
        }
        return sum;
    }

    private boolean hasRoomFor(int counter, int size) {
        return isCounter(counter) && sizesAt(counter) + size <= rooms[counter];
    }

    private void putIntoPurse(int person, int sum) {
        if (isPerson(person)) {
            purses[person] += sum;
        }
    }

    private void dropEndedWishes() {
        for (int i = wishes.size() - 1; i >= 0; i--) {
            if (wishes.get(i).wantedAt == NOWHERE) {
                wishes.remove(i);
            }
        }
    }

    private void giveAway(Thing thing, int paid, int place) {
        takenFees += paid;
        thing.feeSum = paid;
        thing.wantedAt = NOWHERE;
        dropEndedWishes();
        thing.moveTo(place, today);
    }

    private void sell(Thing thing) {
        int lenderShare = Math.min(thing.loanSum, thing.worth);
        putIntoPurse(thing.lender, lenderShare);
        thing.endLoan();
        int rest = thing.worth - lenderShare;
        int paid = Math.min(thing.feeSum, rest);
        putIntoPurse(thing.owner, rest - paid);
        giveAway(thing, paid, SOLD);
    }

    // ---- the end of a day

    private int endDay() {
        oweFees();
        int sold = sellCalled() + sellUnfetched();
        driveVan();
        today++;
        return sold;
    }

    private void oweFees() {
        for (int i = 0; i < leftThings.size(); i++) {
            Thing thing = leftThings.get(i);
            if (thing.isAtCounter()) {
                thing.feeSum += thing.size * (thing.hasLoan() ? FEE_BY_SIZE_WITH_LOAN : FEE_BY_SIZE);
            }
        }
    }

    private int sellCalled() {
        int sold = 0;
        for (int i = 0; i < leftThings.size(); i++) {
            Thing thing = leftThings.get(i);
            if (thing.isCalled() && thing.repayBy <= today) {
                sell(thing);
                sold++;
            }
        }
        return sold;
    }

    private int sellUnfetched() {
        int sold = 0;
        for (int i = 0; i < leftThings.size(); i++) {
            Thing thing = leftThings.get(i);
            int daysEnded = today + 1 - thing.leftOn;
            if (thing.isAtCounter() && !thing.hasLoan() && daysEnded >= DAYS_UNTIL_SOLD) {
                sell(thing);
                sold++;
            }
        }
        return sold;
    }

    private void driveVan() {
        // Wishes are dropped only after the last, so that each has one turn an evening.
        int roomLeft = vanRoom;
        for (int i = 0; i < wishes.size(); i++) {
            Thing thing = wishes.get(i);
            boolean fits = thing.size <= roomLeft && hasRoomFor(thing.wantedAt, thing.size);
            if (fits && !thing.hasLoan()) {
                roomLeft -= thing.size;
                thing.moveTo(thing.wantedAt, today);
                thing.wantedAt = NOWHERE;
            }
        }
        dropEndedWishes();
    }
}
