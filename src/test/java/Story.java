import java.util.function.IntSupplier;

/**
 * All that a town tells, now and in the days to come, as one text: two towns with the same story
 * hold the same. It takes fewer than 400 calls, as answers are promised for 512 alone.
 */
final class Story {
    private static final int FEW_THINGS = 6;

    private final LeftThings x;
    private final StringBuilder text = new StringBuilder();

    private Story(LeftThings x) {
        this.x = x;
    }

    static String of(LeftThings x) {
        Story story = new Story(x);
        story.tellAnswers();
        story.tellSettings();
        story.tellWorths();
        story.tellDaysToCome();
        story.tellLoans();
        return story.text.toString();
    }

    private void tellAnswers() {
        text.append("\nday ").append(x.day()).append(" taken ").append(x.taken()).append(" loads");
        for (int counter = 0; counter < 5; counter++) {
            text.append(' ').append(x.load(counter));
        }
        text.append(" purses");
        for (int person = 0; person < 8; person++) {
            text.append(' ').append(x.purse(person));
        }
        text.append(" things");
        int things = x.things();
        int yesterday = Math.max(x.day() - 1, 0);
        for (int thing = 0; thing < things; thing++) {
            text.append(' ').append(x.where(thing)).append('/').append(x.whereOn(thing, yesterday));
            text.append('/').append(x.fees(thing)).append('/').append(x.loan(thing));
        }
        text.append(" wishes");
        tellWishes();
    }

    private void tellWishes() {
        int things = x.things();
        for (int place = 0; place <= things; place++) {
            try {
                text.append(' ').append(x.wish(place));
            } catch (IndexOutOfBoundsException noMore) {
                return;
            }
        }
        text.append(" and more wishes than things");
    }

    /** Each room is as great as can be then, so that the van brings what is wanted. */
    private void tellSettings() {
        text.append("\nrooms");
        for (int counter = 0; counter < 5; counter++) {
            text.append(' ').append(x.setRoom(counter, 30));
        }
        text.append(" van ").append(x.setVan(30));
    }

    private void tellWorths() {
        text.append("\nworths");
        int things = x.things();
        for (int thing = 0; thing < things; thing++) {
            if (x.where(thing) <= 4) {
                int worth = x.value(thing, 0);
                x.value(thing, worth);
                text.append(' ').append(worth);
            }
        }
    }

    /** Four evenings, in which each called loan ends, and each wish that can be met is met. */
    private void tellDaysToCome() {
        int step = x.things() > FEW_THINGS ? 4 : 1;
        for (int days = 0; days < 4; days += step) {
            tell("pass", () -> x.pass(step));
            tellAnswers();
        }
    }

    private void tellLoans() {
        text.append("\nloans");
        int things = x.things();
        for (int thing = 0; thing < things; thing++) {
            int number = thing;
            tell("doubt", () -> x.doubt(number));
            tell("repay", () -> x.repay(number));
        }
        text.append(" purses");
        for (int person = 0; person < 8; person++) {
            text.append(' ').append(x.purse(person));
        }
    }

    private void tell(String call, IntSupplier answer) {
        text.append(' ').append(call).append(' ');
        try {
            text.append(answer.getAsInt());
        } catch (IllegalStateException refused) {
            text.append("refused");
        }
    }
}
