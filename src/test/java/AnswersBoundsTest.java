/** The boundaries of promises 13 to 21, and of the terms behind them, a test for each sentence. */
public final class AnswersBoundsTest {
    private static final int[] NUMBERS_OF_NONE = {-1, 2, 23, 24, Integer.MIN_VALUE, Integer.MAX_VALUE};

    public static void main(String[] args) {
        howManyThings();
        whereAThingIs();
        noSuchThingToWhere();
        dayOfWhereOn();
        notLeftYet();
        todayWhereItIs();
        beginningOfADay();
        beginningAfterAnEvening();
        firstAndLastDay();
        noSuchThingToWhereOn();
        counterOfLoad();
        sumOfSizes();
        feesOwedAndPaid();
        noSuchThingToFees();
        loanOnAThing();
        noSuchThingToLoan();
        personOfPurse();
        purseNeverFalls();
        allFees();
        orderOfWish();
        placeOfWish();
        Check.finish();
    }

    private static void howManyThings() {
        Check.sentence("Promise 13", "Returns how many things were left");
        LeftThings x = new LeftThings();
        Check.same("none", x.things(), 0);
        for (int number = 0; number < 24; number++) {
            x.leave(0, 1, number % 5);
            Check.same("things", x.things(), number + 1);
        }
        Check.refuses("one more", Check.STATE, () -> x.leave(0, 1, 4));
        Check.same("after a refusal", x.things(), 24);
        x.fetch(0);
        x.pass(30);
        Check.same("fetched and sold", x.things(), 24);
    }

    private static void whereAThingIs() {
        Check.sentence("Promise 14", "its counter, 10 if it is fetched, 11 if it is sold");
        for (int counter = 0; counter < 5; counter++) {
            LeftThings x = new LeftThings();
            x.leave(0, 1, counter);
            x.leave(0, 1, counter);
            Check.same("counter", x.where(1), counter);
            x.fetch(0);
            Check.same("fetched", x.where(0), 10);
            x.pass(29);
            Check.same("counter still", x.where(1), counter);
            x.pass(11);
            Check.same("fetched, not sold", x.where(0), 10);
            Check.same("sold", x.where(1), 11);
        }
    }

    private static void noSuchThingToWhere() {
        Check.sentence("Promise 14", "if there is no such thing");
        LeftThings x = Towns.withThings(2);
        for (int number : NUMBERS_OF_NONE) {
            Check.refuses("thing " + number, Check.INDEX, () -> x.where(number));
        }
        Check.same("the last there is", x.where(1), 1);
    }

    private static void dayOfWhereOn() {
        Check.sentence("Promise 15", "day: 0 to today");
        LeftThings x = Towns.withOne();
        Check.refuses("day 1 on day 0", Check.ARGUMENT, () -> x.whereOn(0, 1));
        Check.same("day 0 on day 0", x.whereOn(0, 0), 0);
        x.pass(7);
        Check.refuses("day -1", Check.ARGUMENT, () -> x.whereOn(0, -1));
        Check.refuses("day 8 on day 7", Check.ARGUMENT, () -> x.whereOn(0, 8));
        Check.refuses("least day", Check.ARGUMENT, () -> x.whereOn(0, Integer.MIN_VALUE));
        Check.refuses("greatest day", Check.ARGUMENT, () -> x.whereOn(0, Integer.MAX_VALUE));
        Check.same("day 0 on day 7", x.whereOn(0, 0), 12);
        Check.same("day 7 on day 7", x.whereOn(0, 7), 0);
    }

    private static void notLeftYet() {
        Check.sentence("Promise 15", "12 if it was not left yet");
        LeftThings x = Towns.onDay(3);
        x.leave(0, 1, 4);
        Check.same("the day before", x.whereOn(0, 2), 12);
        Check.same("the day of leaving, today", x.whereOn(0, 3), 4);
        x.pass(1);
        Check.same("the beginning of the day of leaving", x.whereOn(0, 3), 12);
        Check.same("the day after", x.whereOn(0, 4), 4);
        Check.same("the first day", x.whereOn(0, 0), 12);
    }

    private static void todayWhereItIs() {
        Check.sentence("Promise 15", "Today it tells where it is");
        LeftThings x = Towns.onDay(2);
        x.leave(0, 1, 3);
        Check.same("left today", x.whereOn(0, 2), 3);
        x.pass(1);
        Check.same("left yesterday", x.whereOn(0, 3), 3);
        x.fetch(0);
        Check.same("fetched today", x.whereOn(0, 3), 10);
        x.pass(1);
        Check.same("fetched yesterday", x.whereOn(0, 4), 10);
    }

    private static void beginningOfADay() {
        Check.sentence("Promise 15", "where a thing was at the beginning of a day");
        LeftThings x = Towns.onDay(1);
        x.leave(0, 1, 3);
        x.leave(0, 1, 2);
        x.fetch(1);
        x.pass(2);
        x.fetch(0);
        x.pass(1);
        Check.same("fetched on that day", x.whereOn(0, 3), 3);
        Check.same("fetched the day before", x.whereOn(0, 4), 10);
        Check.same("left and fetched on that day", x.whereOn(1, 1), 12);
        Check.same("left and fetched the day before", x.whereOn(1, 2), 10);
    }

    private static void beginningAfterAnEvening() {
        Check.sentence("Promise 15", "the beginning of a day is after the evening before it");
        LeftThings x = Towns.withOne();
        x.pass(1);
        x.want(0, 1);
        x.pass(1);
        x.want(0, 2);
        x.pass(1);
        x.fetch(0);
        x.pass(1);
        int[] due = {12, 0, 1, 2, 10};
        for (int day = 0; day < due.length; day++) {
            Check.same("day " + day, x.whereOn(0, day), due[day]);
        }
        LeftThings sold = Towns.withSold();
        sold.pass(2);
        Check.same("its last day", sold.whereOn(0, 3), 0);
        Check.same("the day after it", sold.whereOn(0, 4), 11);
        Check.same("the day after that", sold.whereOn(0, 5), 11);
    }

    private static void firstAndLastDay() {
        Check.sentence("Promise 15", "the first day and day 1000");
        LeftThings x = Towns.withLoan();
        Towns.passUntil(x, 1000);
        Check.same("day 0", x.whereOn(0, 0), 12);
        Check.same("day 1", x.whereOn(0, 1), 0);
        Check.same("day 1000", x.whereOn(0, 1000), 0);
        x.repay(0);
        x.fetch(0);
        Check.same("day 1000, fetched", x.whereOn(0, 1000), 10);
        Check.same("day 999", x.whereOn(0, 999), 0);
        Check.refuses("day 1001", Check.ARGUMENT, () -> x.whereOn(0, 1001));
    }

    private static void noSuchThingToWhereOn() {
        Check.sentence("Promise 15", "if there is no such thing");
        LeftThings x = Towns.withThings(2);
        for (int number : NUMBERS_OF_NONE) {
            Check.refuses("thing " + number, Check.INDEX, () -> x.whereOn(number, 0));
            Check.refuses("thing " + number + ", day -1", Check.INDEX, () -> x.whereOn(number, -1));
            Check.refuses("thing " + number + ", day 1", Check.INDEX, () -> x.whereOn(number, 1));
        }
        Check.same("the last there is", x.whereOn(1, 0), 1);
    }

    private static void counterOfLoad() {
        Check.sentence("Promise 16", "counter: 0 to 4");
        LeftThings x = Towns.withSold();
        x.leave(0, 1, 0);
        x.fetch(1);
        int[] none = {-1, 5, 10, 11, 12, Integer.MIN_VALUE, Integer.MAX_VALUE};
        for (int counter : none) {
            Check.refuses("counter " + counter, Check.ARGUMENT, () -> x.load(counter));
        }
        for (int counter = 0; counter < 5; counter++) {
            Check.same("counter " + counter, x.load(counter), 0);
        }
    }

    private static void sumOfSizes() {
        Check.sentence("Promise 16", "Returns the sum of sizes at a counter");
        LeftThings x = new LeftThings();
        x.setRoom(3, 30);
        Check.same("empty", x.load(3), 0);
        for (int number = 0; number < 10; number++) {
            x.leave(0, 3, 3);
            Check.same("load", x.load(3), 3 * number + 3);
        }
        x.setRoom(3, 0);
        Check.same("above room", x.load(3), 30);
        x.lend(0, 1, 1);
        x.fetch(9);
        Check.same("one is fetched, one has a loan", x.load(3), 27);
        x.want(8, 4);
        x.pass(1);
        Check.same("one is brought away", x.load(3) * 100 + x.load(4), 2403);
        x.pass(29);
        Check.same("all but the one with a loan are sold", x.load(3) * 100 + x.load(4), 300);
    }

    private static void feesOwedAndPaid() {
        Check.sentence("Promise 17", "the fees that a thing owes; what it paid, if it is fetched or sold");
        LeftThings x = Towns.withThings(4);
        x.value(1, 0);
        x.value(2, 5);
        Check.same("on the first day", x.fees(0), 0);
        x.pass(29);
        Check.same("owes above its worth", x.fees(1), 58);
        x.fetch(0);
        Check.same("paid by fetching", x.fees(0), 58);
        x.pass(1);
        Check.same("paid of worth 0", x.fees(1), 0);
        Check.same("paid of worth 5", x.fees(2), 5);
        Check.same("paid of worth 20", x.fees(3), 20);
        x.pass(10);
        Check.same("paid by fetching, later", x.fees(0), 58);
    }

    private static void noSuchThingToFees() {
        Check.sentence("Promise 17", "if there is no such thing");
        LeftThings x = Towns.withThings(2);
        for (int number : NUMBERS_OF_NONE) {
            Check.refuses("thing " + number, Check.INDEX, () -> x.fees(number));
        }
        Check.same("the last there is", x.fees(1), 0);
    }

    private static void loanOnAThing() {
        Check.sentence("Promise 18", "Returns the loan on a thing, 0 if there is none");
        LeftThings x = Towns.withThings(2);
        Check.same("none", x.loan(0), 0);
        x.lend(0, 1, 1);
        Check.same("least", x.loan(0), 1);
        Check.same("none on the other", x.loan(1), 0);
        x.doubt(0);
        Check.same("called", x.loan(0), 1);
        x.repay(0);
        Check.same("repaid", x.loan(0), 0);
        Check.same("sold", Towns.withSold().loan(0), 0);
        Check.same("fetched", Towns.withFetched().loan(0), 0);
    }

    private static void noSuchThingToLoan() {
        Check.sentence("Promise 18", "if there is no such thing");
        LeftThings x = Towns.withThings(2);
        x.lend(1, 0, 10);
        for (int number : NUMBERS_OF_NONE) {
            Check.refuses("thing " + number, Check.INDEX, () -> x.loan(number));
        }
        Check.same("the last there is", x.loan(1), 10);
    }

    private static void personOfPurse() {
        Check.sentence("Promise 19", "person: 0 to 7");
        LeftThings x = Towns.withThings(8);
        int[] none = {-1, 8, Integer.MIN_VALUE, Integer.MAX_VALUE};
        for (int person : none) {
            Check.refuses("person " + person, Check.ARGUMENT, () -> x.purse(person));
        }
        for (int person = 0; person < 8; person++) {
            Check.same("purse before", x.purse(person), 0);
            x.lend(person, (person + 1) % 8, 1 + person);
            Check.same("purse of " + person, x.purse(person), 1 + person);
        }
    }

    private static void purseNeverFalls() {
        Check.sentence("Promise 19", "a purse, which never falls");
        LeftThings x = Towns.withThings(2);
        x.lend(0, 1, 10);
        x.repay(0);
        x.lend(0, 1, 10);
        Check.same("lender who lends again", x.purse(1), 10);
        x.pass(2);
        x.fetch(1);
        Check.same("owner who pays fees", x.purse(1), 10);
        x.value(0, 0);
        x.doubt(0);
        x.pass(4);
        Check.same("owner of what is sold for nothing", x.purse(0), 20);
        Check.same("lender of what is sold for nothing", x.purse(1), 10);
    }

    private static void allFees() {
        Check.sentence("Promise 20", "all fees that were paid, by fetching and selling");
        LeftThings x = Towns.withThings(3);
        Check.same("at first", x.taken(), 0);
        x.fetch(0);
        Check.same("fetched without fees", x.taken(), 0);
        x.pass(1);
        Check.same("owed, not paid", x.taken(), 0);
        x.fetch(1);
        Check.same("fetched", x.taken(), 2);
        x.lend(2, 0, 1);
        x.repay(2);
        Check.same("repaid", x.taken(), 2);
        x.value(2, 7);
        x.pass(29);
        Check.same("sold for less than its fees", x.taken(), 9);
        LeftThings none = Towns.withOne();
        none.value(0, 0);
        none.pass(30);
        Check.same("sold for nothing", none.taken(), 0);
    }

    private static void orderOfWish() {
        Check.sentence("Promise 21", "Returns a thing that is wanted, in the order of wishes");
        LeftThings x = Towns.withThings(24);
        for (int number = 23; number >= 0; number--) {
            x.want(number, (number + 2) % 5);
        }
        for (int place = 0; place < 24; place++) {
            Check.same("place " + place, x.wish(place), 23 - place);
        }
    }

    private static void placeOfWish() {
        Check.sentence("Promise 21", "place: from 0; if there are not so many");
        LeftThings x = Towns.withThings(3);
        Check.refuses("place 0 of none", Check.INDEX, () -> x.wish(0));
        x.want(2, 0);
        x.want(1, 0);
        int[] none = {-1, 2, 3, Integer.MIN_VALUE, Integer.MAX_VALUE};
        for (int place : none) {
            Check.refuses("place " + place + " of two", Check.INDEX, () -> x.wish(place));
        }
        Check.same("the first", x.wish(0), 2);
        Check.same("the last", x.wish(1), 1);
        x.pass(1);
        Check.refuses("place 0 once they are met", Check.INDEX, () -> x.wish(0));
    }
}
