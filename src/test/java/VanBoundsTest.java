/** The boundaries of the terms of the van, which drives in pass, a test for each sentence. */
public final class VanBoundsTest {
    public static void main(String[] args) {
        noWish();
        eachEvening();
        newerWishBehind();
        orderOfWishes();
        takenWithoutALoan();
        sizeThatStillFits();
        smallerOneBehind();
        roomWhereItIsWanted();
        roomThatIsJustEnough();
        goneFromWhereTheyWere();
        notGoneYet();
        whereTheyAreWanted();
        changingPlaces();
        wishIsGone();
        otherWishesStay();
        Check.finish();
    }

    private static LeftThings withWishes(int counter, int... sizes) {
        LeftThings x = new LeftThings();
        for (int size : sizes) {
            int thing = x.leave(0, size, 0);
            x.want(thing, counter);
        }
        return x;
    }

    private static void places(String when, LeftThings x, int... due) {
        for (int thing = 0; thing < due.length; thing++) {
            Check.same(when + ", place of " + thing, x.where(thing), due[thing]);
        }
    }

    private static void noWish() {
        Check.sentence("The van", "the van goes through the wishes: there may be none");
        LeftThings x = Towns.withThings(5);
        x.pass(20);
        places("without a wish", x, 0, 1, 2, 3, 4);
    }

    private static void eachEvening() {
        Check.sentence("The van", "room for 6 at first, each evening");
        LeftThings x = withWishes(1, 3, 3, 3);
        x.leave(0, 3, 2);
        x.want(3, 0);
        x.setRoom(1, 30);
        x.pass(1);
        places("first evening", x, 1, 1, 0, 2);
        x.pass(1);
        places("second evening", x, 1, 1, 1, 0);
        LeftThings inOne = withWishes(1, 3, 3, 3);
        inOne.pass(2);
        places("two evenings in one call", inOne, 1, 1, 1);
        Check.same("brought on the first", inOne.whereOn(0, 1), 1);
        Check.same("brought on the second", inOne.whereOn(2, 1), 0);
    }

    private static void newerWishBehind() {
        Check.sentence("The van", "a newer wish takes the place of an older one, and comes behind all others");
        LeftThings x = withWishes(1, 3, 3, 3);
        x.want(0, 2);
        x.pass(1);
        places("the first came behind", x, 0, 1, 1);
        x.pass(1);
        places("by its newer wish", x, 2, 1, 1);
    }

    private static void orderOfWishes() {
        Check.sentence("The van", "goes through the wishes in their order");
        LeftThings x = Towns.withThings(3);
        x.want(2, 3);
        x.want(0, 3);
        x.want(1, 3);
        x.setVan(1);
        x.pass(1);
        places("first", x, 0, 1, 3);
        x.pass(1);
        places("second", x, 3, 1, 3);
        x.pass(1);
        places("third", x, 3, 3, 3);
    }

    private static void takenWithoutALoan() {
        Check.sentence("The van", "it takes a thing if that has no loan");
        LeftThings x = withWishes(1, 3, 3, 3);
        x.lend(0, 1, 1);
        x.pass(1);
        places("the loan takes no room", x, 0, 1, 1);
        Check.same("its wish stays", x.wish(0), 0);
        x.doubt(0);
        x.pass(1);
        places("a called loan", x, 0, 1, 1);
        x.repay(0);
        x.pass(1);
        places("repaid", x, 1, 1, 1);
    }

    private static void sizeThatStillFits() {
        Check.sentence("The van", "if its size still fits into the van");
        for (int size = 1; size <= 3; size++) {
            LeftThings x = withWishes(1, size, size);
            x.setVan(2 * size - 1);
            x.pass(1);
            places("1 less than both", x, 1, 0);
            LeftThings both = withWishes(1, size, size);
            both.setVan(2 * size);
            both.pass(1);
            places("just both", both, 1, 1);
            LeftThings none = withWishes(1, size, size);
            none.setVan(size - 1);
            none.pass(1);
            places("1 less than one", none, 0, 0);
        }
    }

    private static void smallerOneBehind() {
        Check.sentence("The van", "if its size still fits: a smaller one behind one that does not");
        LeftThings x = withWishes(1, 2, 3, 2, 1);
        x.setVan(4);
        x.pass(1);
        places("2 of 4, not 3, 2 of 2, not 1", x, 1, 0, 1, 0);
        x.pass(1);
        places("the next evening", x, 1, 1, 1, 1);
    }

    private static void roomWhereItIsWanted() {
        Check.sentence("The van", "if the counter where it is wanted has room for it then");
        LeftThings x = withWishes(1, 3, 2, 1);
        x.setRoom(1, 2);
        x.pass(1);
        places("not 3, but 2, not 1", x, 0, 1, 0);
        x.setRoom(1, 3);
        x.pass(1);
        places("room for 1 more", x, 0, 1, 1);
        x.setRoom(1, 5);
        x.pass(1);
        places("1 too little", x, 0, 1, 1);
        x.setRoom(1, 6);
        x.pass(1);
        places("just enough", x, 1, 1, 1);
    }

    private static void roomThatIsJustEnough() {
        Check.sentence("The van", "has room for it: not one that is fuller than its room");
        LeftThings x = withWishes(1, 1);
        x.leave(0, 3, 1);
        x.setRoom(1, 2);
        x.pass(1);
        places("fuller than its room", x, 0, 1);
        x.setRoom(1, 3);
        x.pass(1);
        places("just full", x, 0, 1);
        x.setRoom(1, 4);
        x.pass(1);
        places("room for 1", x, 1, 1);
        Check.same("load", x.load(1), 4);
    }

    private static void goneFromWhereTheyWere() {
        Check.sentence("The van", "things that were taken in the same evening being gone from where they were");
        LeftThings x = new LeftThings();
        x.setRoom(1, 3);
        x.leave(0, 3, 1);
        x.leave(0, 3, 0);
        x.want(0, 2);
        x.want(1, 1);
        x.pass(1);
        places("into the room that was made", x, 2, 1);
    }

    private static void notGoneYet() {
        Check.sentence("The van", "has room for it then: not room that is made behind it");
        LeftThings x = new LeftThings();
        x.setRoom(1, 3);
        x.leave(0, 3, 1);
        x.leave(0, 3, 0);
        x.want(1, 1);
        x.want(0, 2);
        x.pass(1);
        places("no room when its turn was", x, 2, 0);
        Check.same("its wish stays", x.wish(0), 1);
        x.pass(1);
        places("the next evening", x, 2, 1);
    }

    private static void whereTheyAreWanted() {
        Check.sentence("The van", "things that were taken in the same evening being where they are wanted");
        LeftThings x = new LeftThings();
        x.setRoom(2, 3);
        x.leave(0, 2, 0);
        x.leave(0, 2, 1);
        x.leave(0, 1, 1);
        for (int number = 0; number < 3; number++) {
            x.want(number, 2);
        }
        x.pass(1);
        places("2 of 3, not 2 more, 1 more", x, 2, 1, 2);
    }

    private static void changingPlaces() {
        Check.sentence("The van", "two that are wanted where the other is");
        LeftThings full = new LeftThings();
        full.setRoom(0, 3);
        full.setRoom(1, 3);
        full.leave(0, 3, 0);
        full.leave(0, 3, 1);
        full.want(0, 1);
        full.want(1, 0);
        full.pass(3);
        places("both full", full, 0, 1);
        Check.same("both wishes stay", full.wish(0) * 10 + full.wish(1), 1);
        full.setRoom(1, 6);
        full.pass(1);
        places("room for the first", full, 1, 0);
        Check.refuses("both wishes are gone", Check.INDEX, () -> full.wish(0));
    }

    private static void wishIsGone() {
        Check.sentence("The van", "what is taken is at its counter, and its wish is gone");
        LeftThings x = withWishes(4, 1);
        x.pass(1);
        places("brought", x, 4);
        Check.same("load there", x.load(4), 1);
        Check.same("load where it was", x.load(0), 0);
        Check.refuses("no wish", Check.INDEX, () -> x.wish(0));
        x.want(0, 2);
        Check.refuses("no second wish", Check.INDEX, () -> x.wish(1));
        x.pass(5);
        places("the newer wish alone", x, 2);
    }

    private static void otherWishesStay() {
        Check.sentence("The van", "other wishes stay");
        LeftThings x = withWishes(1, 1, 3, 1, 3, 1);
        x.setVan(2);
        x.pass(1);
        places("the small ones, up to 2", x, 1, 0, 1, 0, 0);
        Check.same("first that stays", x.wish(0), 1);
        Check.same("second that stays", x.wish(1), 3);
        Check.same("third that stays", x.wish(2), 4);
        Check.refuses("no more", Check.INDEX, () -> x.wish(3));
        x.want(0, 2);
        Check.same("a new one comes behind them", x.wish(3), 0);
    }
}
