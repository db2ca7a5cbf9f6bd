/** Promises 13 to 21: what is. */
public final class AnswersTest {
    public static void main(String[] args) {
        countOfThings();
        places();
        placesOnDays();
        placesOnDaysRefused();
        severalPlacesInADay();
        loads();
        sums();
        noSuchThing();
        purses();
        wishes();
        Check.finish();
    }

    private static void countOfThings() {
        LeftThings x = new LeftThings();
        x.leave(0, 1, 0);
        x.leave(0, 1, 0);
        x.fetch(0);
        x.pass(30);
        Check.same("fetched and sold things count", x.things(), 2);
    }

    private static void places() {
        LeftThings x = new LeftThings();
        x.leave(0, 1, 3);
        x.leave(0, 1, 0);
        x.leave(0, 1, 4);
        Check.same("at a counter", x.where(0), 3);
        x.fetch(0);
        Check.same("fetched", x.where(0), 10);
        x.pass(30);
        Check.same("fetched still", x.where(0), 10);
        Check.same("sold", x.where(1), 11);
        Check.same("sold too", x.where(2), 11);
    }

    private static void placesOnDays() {
        LeftThings x = new LeftThings();
        x.pass(2);
        x.leave(0, 1, 0);
        Check.same("today", x.whereOn(0, 2), 0);
        Check.same("yesterday", x.whereOn(0, 1), 12);
        x.want(0, 4);
        x.pass(3);
        x.want(0, 3);
        x.pass(1);
        Check.same("today, brought", x.whereOn(0, 6), 3);
        x.fetch(0);
        Check.same("today, fetched", x.whereOn(0, 6), 10);
        x.pass(1);
        int[] due = {12, 12, 12, 4, 4, 4, 3, 10};
        for (int day = 0; day < due.length; day++) {
            Check.same("on day " + day, x.whereOn(0, day), due[day]);
        }
        x.leave(0, 1, 2);
        x.pass(40);
        Check.same("day it was left", x.whereOn(1, 7), 12);
        Check.same("day after it was left", x.whereOn(1, 8), 2);
        Check.same("day of the sale", x.whereOn(1, 36), 2);
        Check.same("day after the sale", x.whereOn(1, 37), 11);
        Check.same("fetched for good", x.whereOn(0, 47), 10);
    }

    private static void placesOnDaysRefused() {
        LeftThings x = new LeftThings();
        x.leave(0, 1, 0);
        x.pass(3);
        Check.refuses("thing -1", Check.INDEX, () -> x.whereOn(-1, -1));
        Check.refuses("thing 1", Check.INDEX, () -> x.whereOn(1, 0));
        Check.refuses("day -1", Check.ARGUMENT, () -> x.whereOn(0, -1));
        Check.refuses("tomorrow", Check.ARGUMENT, () -> x.whereOn(0, 4));
        Check.refuses("least day", Check.ARGUMENT, () -> x.whereOn(0, Integer.MIN_VALUE));
        Check.refuses("greatest day", Check.ARGUMENT, () -> x.whereOn(0, Integer.MAX_VALUE));
        Check.same("today", x.whereOn(0, 3), 0);
    }

    private static void severalPlacesInADay() {
        LeftThings x = new LeftThings();
        x.leave(0, 1, 0);
        x.fetch(0);
        x.leave(0, 1, 0);
        x.want(1, 2);
        Check.same("left and fetched today", x.whereOn(0, 0), 10);
        x.pass(1);
        Check.same("at the beginning of that day", x.whereOn(0, 0), 12);
        Check.same("a day later", x.whereOn(0, 1), 10);
        Check.same("left and brought, before", x.whereOn(1, 0), 12);
        Check.same("left and brought, after", x.whereOn(1, 1), 2);
    }

    private static void loads() {
        LeftThings x = new LeftThings();
        x.leave(0, 3, 1);
        x.leave(0, 2, 1);
        x.leave(0, 1, 4);
        Check.same("two things", x.load(1), 5);
        Check.same("one thing", x.load(4), 1);
        Check.same("no thing", x.load(0), 0);
        x.want(0, 4);
        x.pass(1);
        Check.same("one was brought away", x.load(1), 2);
        Check.same("one was brought", x.load(4), 4);
        x.fetch(0);
        Check.same("one was fetched", x.load(4), 1);
        x.pass(30);
        Check.same("all were sold", x.load(1) + x.load(4), 0);
        Check.refuses("counter -1", Check.ARGUMENT, () -> x.load(-1));
        Check.refuses("counter 5", Check.ARGUMENT, () -> x.load(5));
        Check.refuses("counter 10", Check.ARGUMENT, () -> x.load(10));
        Check.refuses("counter 11", Check.ARGUMENT, () -> x.load(11));
    }

    private static void sums() {
        LeftThings x = new LeftThings();
        x.leave(0, 2, 0);
        x.leave(0, 3, 1);
        x.pass(3);
        Check.same("fees owed", x.fees(0), 12);
        Check.same("nothing taken yet", x.taken(), 0);
        x.lend(1, 2, 30);
        Check.same("loan", x.loan(1), 30);
        Check.same("no loan", x.loan(0), 0);
        x.fetch(0);
        Check.same("fees paid", x.fees(0), 12);
        Check.same("taken by fetching", x.taken(), 12);
        x.doubt(1);
        x.pass(4);
        Check.same("fees paid by selling", x.fees(1), 30);
        Check.same("taken by selling too", x.taken(), 42);
        Check.same("loan of a sold thing", x.loan(1), 0);
    }

    private static void noSuchThing() {
        LeftThings x = new LeftThings();
        x.leave(0, 1, 0);
        int[] numbers = {-1, 1, 23, 24, Integer.MIN_VALUE, Integer.MAX_VALUE};
        for (int number : numbers) {
            Check.refuses("where " + number, Check.INDEX, () -> x.where(number));
            Check.refuses("fees " + number, Check.INDEX, () -> x.fees(number));
            Check.refuses("loan " + number, Check.INDEX, () -> x.loan(number));
        }
    }

    private static void purses() {
        LeftThings x = new LeftThings();
        x.leave(7, 1, 0);
        x.lend(0, 0, 10);
        Check.same("last person", x.purse(7), 10);
        x.repay(0);
        Check.same("first person", x.purse(0), 10);
        Check.same("another person", x.purse(3), 0);
        Check.refuses("person -1", Check.ARGUMENT, () -> x.purse(-1));
        Check.refuses("person 8", Check.ARGUMENT, () -> x.purse(8));
        Check.refuses("greatest person", Check.ARGUMENT, () -> x.purse(Integer.MAX_VALUE));
    }

    private static void wishes() {
        LeftThings x = new LeftThings();
        for (int number = 0; number < 24; number++) {
            x.leave(0, 1, number % 3);
        }
        for (int number = 23; number >= 0; number--) {
            Check.same("wishes", x.want(number, 4), 24 - number);
        }
        for (int place = 0; place < 24; place++) {
            Check.same("wish " + place, x.wish(place), 23 - place);
        }
        Check.refuses("wish -1", Check.INDEX, () -> x.wish(-1));
        Check.refuses("wish 24", Check.INDEX, () -> x.wish(24));
        x.fetch(20);
        Check.same("in the place of a fetched thing", x.wish(3), 19);
        Check.refuses("one wish less", Check.INDEX, () -> x.wish(23));
    }
}
