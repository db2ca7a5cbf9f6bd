import java.util.ArrayList;
import java.util.List;

/**
 * The document once more, told in another way than the class does: plain and slow, with the places
 * of all things written down as each day begins. An answer is a text, as is a refusal.
 */
final class Model {
    static final String ARGUMENT = "IllegalArgumentException";
    static final String STATE = "IllegalStateException";
    static final String INDEX = "IndexOutOfBoundsException";

    private static final class Item {
        int owner;
        int size;
        int worth;
        int place;
        int owed;
        int paid;
        int daysAtCounters;
        int loan;
        int lender;
        boolean called;
        int daysToRepay;
        List<Integer> placeAsDaysBegan = new ArrayList<>();
    }

    private final int[] room = {10, 10, 10, 10, 10};
    private final int[] purse = new int[8];
    private final List<Item> items = new ArrayList<>();
    private final List<int[]> wishes = new ArrayList<>();
    private int van = 6;
    private int day = 0;
    private int taken = 0;

    String answer(int call, int a, int b, int c) {
        return switch (call) {
            case 0 -> setRoom(a, b);
            case 1 -> setVan(a);
            case 2 -> leave(a, b, c);
            case 3 -> fetch(a);
            case 4 -> want(a, b);
            case 5 -> value(a, b);
            case 6 -> lend(a, b, c);
            case 7 -> repay(a);
            case 8 -> doubt(a);
            case 9 -> pass(a);
            case 10 -> "" + day;
            case 11 -> "" + items.size();
            case 12 -> none(a) ? INDEX : "" + items.get(a).place;
            case 13 -> whereOn(a, b);
            case 14 -> out(a, 0, 4) ? ARGUMENT : "" + load(a);
            case 15 -> none(a) ? INDEX : "" + fees(items.get(a));
            case 16 -> none(a) ? INDEX : "" + items.get(a).loan;
            case 17 -> out(a, 0, 7) ? ARGUMENT : "" + purse[a];
            case 18 -> "" + taken;
            default -> out(a, 0, wishes.size() - 1) ? INDEX : "" + wishes.get(a)[0];
        };
    }

    int day() {
        return day;
    }

    int things() {
        return items.size();
    }

    private static boolean out(int word, int least, int most) {
        return word < least || word > most;
    }

    private boolean none(int thing) {
        return out(thing, 0, items.size() - 1);
    }

    private static boolean away(Item item) {
        return item.place > 4;
    }

    private static int fees(Item item) {
        return away(item) ? item.paid : item.owed;
    }

    private int load(int counter) {
        return items.stream().filter(item -> item.place == counter).mapToInt(item -> item.size).sum();
    }

    private String setRoom(int counter, int newRoom) {
        if (out(counter, 0, 4) || out(newRoom, 0, 30)) {
            return ARGUMENT;
        }
        int before = room[counter];
        room[counter] = newRoom;
        return "" + before;
    }

    private String setVan(int newRoom) {
        if (out(newRoom, 0, 30)) {
            return ARGUMENT;
        }
        int before = van;
        van = newRoom;
        return "" + before;
    }

    private String leave(int owner, int size, int counter) {
        if (out(owner, 0, 7) || out(size, 1, 3) || out(counter, 0, 4)) {
            return ARGUMENT;
        }
        if (room[counter] - load(counter) < size || items.size() == 24) {
            return STATE;
        }
        Item item = new Item();
        item.owner = owner;
        item.size = size;
        item.worth = size * 20;
        item.place = counter;
        for (int before = 0; before <= day; before++) {
            item.placeAsDaysBegan.add(12);
        }
        items.add(item);
        return "" + (items.size() - 1);
    }

    private String fetch(int thing) {
        if (none(thing)) {
            return INDEX;
        }
        Item item = items.get(thing);
        if (away(item) || item.loan > 0) {
            return STATE;
        }
        pay(item, item.owed);
        goAway(thing, 10);
        return "" + item.paid;
    }

    private void pay(Item item, int fees) {
        item.paid = fees;
        taken += fees;
    }

    private void goAway(int thing, int place) {
        items.get(thing).place = place;
        wishes.removeIf(wish -> wish[0] == thing);
    }

    private String want(int thing, int counter) {
        if (none(thing)) {
            return INDEX;
        }
        if (out(counter, 0, 4)) {
            return ARGUMENT;
        }
        if (away(items.get(thing)) || items.get(thing).place == counter) {
            return STATE;
        }
        wishes.removeIf(wish -> wish[0] == thing);
        wishes.add(new int[] {thing, counter});
        return "" + wishes.size();
    }

    private String value(int thing, int worth) {
        if (none(thing)) {
            return INDEX;
        }
        if (out(worth, 0, 10000)) {
            return ARGUMENT;
        }
        Item item = items.get(thing);
        if (away(item)) {
            return STATE;
        }
        int before = item.worth;
        item.worth = worth;
        return "" + before;
    }

    private String lend(int thing, int lender, int sum) {
        if (none(thing)) {
            return INDEX;
        }
        if (out(lender, 0, 7) || out(sum, 1, 5000)) {
            return ARGUMENT;
        }
        Item item = items.get(thing);
        if (away(item) || lender == item.owner || item.loan > 0 || 2 * sum > item.worth) {
            return STATE;
        }
        item.loan = sum;
        item.lender = lender;
        item.called = false;
        purse[item.owner] += sum;
        return "null";
    }

    private String repay(int thing) {
        if (none(thing)) {
            return INDEX;
        }
        Item item = items.get(thing);
        int sum = item.loan;
        if (sum == 0) {
            return STATE;
        }
        purse[item.lender] += sum;
        item.loan = 0;
        return "" + sum;
    }

    private String doubt(int thing) {
        if (none(thing)) {
            return INDEX;
        }
        Item item = items.get(thing);
        if (item.loan == 0 || item.called) {
            return STATE;
        }
        item.called = true;
        item.daysToRepay = 4;
        return "" + (day + 3);
    }

    private String whereOn(int thing, int on) {
        if (none(thing)) {
            return INDEX;
        }
        if (out(on, 0, day)) {
            return ARGUMENT;
        }
        Item item = items.get(thing);
        return "" + (on == day ? item.place : item.placeAsDaysBegan.get(on));
    }

    private String pass(int days) {
        if (out(days, 1, 40)) {
            return ARGUMENT;
        }
        if (day + days > 1000) {
            return STATE;
        }
        int sold = 0;
        for (int ended = 0; ended < days; ended++) {
            sold += endDay();
        }
        return "" + sold;
    }

    private int endDay() {
        for (Item item : items) {
            if (!away(item)) {
                item.owed += item.loan > 0 ? item.size : 2 * item.size;
                item.daysAtCounters++;
            }
            item.daysToRepay--;
        }
        int sold = 0;
        for (int thing = 0; thing < items.size(); thing++) {
            Item item = items.get(thing);
            boolean settled = item.loan > 0 && item.called && item.daysToRepay == 0;
            boolean unfetched = item.loan == 0 && item.daysAtCounters >= 30;
            if (!away(item) && (settled || unfetched)) {
                sell(thing);
                sold++;
            }
        }
        drive();
        day++;
        items.forEach(item -> item.placeAsDaysBegan.add(item.place));
        return sold;
    }

    private void sell(int thing) {
        Item item = items.get(thing);
        int left = item.worth;
        int ofLender = Math.min(left, item.loan);
        if (item.loan > 0) {
            purse[item.lender] += ofLender;
        }
        left -= ofLender;
        pay(item, Math.min(left, item.owed));
        purse[item.owner] += left - item.paid;
        item.loan = 0;
        goAway(thing, 11);
    }

    private void drive() {
        int load = 0;
        for (int[] wish : new ArrayList<>(wishes)) {
            Item item = items.get(wish[0]);
            boolean fits = load + item.size <= van;
            if (item.loan == 0 && fits && load(wish[1]) + item.size <= room[wish[1]]) {
                load += item.size;
                item.place = wish[1];
                wishes.remove(wish);
            }
        }
    }
}
