import java.util.ArrayList;
import java.util.List;

/**
 * A second, independent telling of the document, on Java's own arrays: what IS of a FORM, what can't be cast and what
 * a row can't hold is left to the Java machine to say. The program is compared with it, call by call.
 */
final class Model {
    static final int NONE = -1, BAD = -2, FULL = -3, CAST = -4, INDEX = -5, STORE = -6;

    interface Stamped {
        void addStamp();

        int all();
    }

    static class Card implements Stamped {
        int stamps;

        public void addStamp() {
            stamps++;
        }

        public int all() {
            return stamps;
        }
    }

    static final class GoldCard extends Card {
        @Override
        public void addStamp() {
            stamps += 2;
        }
    }

    static final class Token implements Stamped {
        int stamps;

        public void addStamp() {
            stamps++;
        }

        public int all() {
            return stamps;
        }
    }

    static final class Desk {
        Class<?> form;
        int act;
        boolean asks;
        boolean asksForNow;
        int tally;
        int worked;
        int backs;
        Object held;
        Object latestBack;
    }

    private static final List<Class<?>> FORMS = List.of(char[].class, short[].class, double[].class, boolean[].class,
        char[][].class, Card.class, GoldCard.class, Token.class, Card[].class, GoldCard[].class, Stamped[].class,
        Card[][].class, GoldCard[][].class, Stamped.class);

    private final List<Object> items = new ArrayList<>();
    private final List<Integer> kinds = new ArrayList<>();
    private final List<List<Desk>> rooms = new ArrayList<>();
    private int works;
    private Object cameOut;
    private int reason;
    private final int[] refusals = new int[7];
    private int backs;

    Model() {
        for (int room = 0; room < 8; room++) {
            rooms.add(new ArrayList<>());
        }
    }

    private int no(int why) {
        reason = why;
        refusals[-why]++;
        return why;
    }

    private int yes(int answer) {
        reason = 0;
        return answer;
    }

    /** How many ITEMS there are; no call of the document. */
    int size() {
        return items.size();
    }

    /** Whether an ITEM that is there IS of a FORM; no call of the document. */
    boolean fits(int item, int form) {
        return isItem(item) && FORMS.get(form).isInstance(items.get(item));
    }

    private boolean isItem(int item) {
        return item >= 0 && item < items.size();
    }

    private int number(Object item) {
        for (int k = 0; k < items.size(); k++) {
            if (items.get(k) == item) {
                return k;
            }
        }
        return NONE;
    }

    int make(int kind, int n) {
        boolean single = kind >= 5 && kind <= 7;
        if (kind < 0 || kind > 12 || !single && (n < 0 || n > 3)) {
            return no(BAD);
        }
        if (items.size() == 60) {
            return no(FULL);
        }
        items.add(switch (kind) {
            case 0 -> new char[n];
            case 1 -> new short[n];
            case 2 -> new double[n];
            case 3 -> new boolean[n];
            case 4 -> new char[n][];
            case 5 -> new Card();
            case 6 -> new GoldCard();
            case 7 -> new Token();
            case 8 -> new Card[n];
            case 9 -> new GoldCard[n];
            case 10 -> new Stamped[n];
            case 11 -> new Card[n][];
            default -> new GoldCard[n][];
        });
        kinds.add(kind);
        return yes(items.size() - 1);
    }

    int put(int item, int i, int v) {
        if (!isItem(item)) {
            return no(BAD);
        }
        try {
            Object row = items.get(item);
            switch (kinds.get(item)) {
                case 0 -> ((char[]) row)[i] = (char) v;
                case 1 -> ((short[]) row)[i] = (short) v;
                case 2 -> ((double[]) row)[i] = v / 8.0;
                default -> ((boolean[]) row)[i] = v != 0;
            }
            return yes(1);
        } catch (ClassCastException e) {
            return no(CAST);
        } catch (ArrayIndexOutOfBoundsException e) {
            return no(INDEX);
        }
    }

    int get(int item, int i) {
        if (!isItem(item)) {
            no(BAD);
            return 0;
        }
        try {
            Object row = items.get(item);
            return yes(switch (kinds.get(item)) {
                case 0 -> ((char[]) row)[i];
                case 1 -> ((short[]) row)[i];
                case 2 -> (int) (((double[]) row)[i] * 8.0);
                default -> ((boolean[]) row)[i] ? 1 : 0;
            });
        } catch (ClassCastException e) {
            no(CAST);
        } catch (ArrayIndexOutOfBoundsException e) {
            no(INDEX);
        }
        return 0;
    }

    int lay(int item, int i, int other) {
        if (!isItem(item) || other != NONE && !isItem(other)) {
            return no(BAD);
        }
        try {
            Object row = items.get(item);
            Object thing = other == NONE ? null : items.get(other);
            switch (kinds.get(item)) {
                case 4 -> ((char[][]) row)[i] = (char[]) thing;
                case 8, 9 -> ((Card[]) row)[i] = (Card) thing;
                case 10 -> ((Stamped[]) row)[i] = (Stamped) thing;
                default -> ((Card[][]) row)[i] = (Card[]) thing;
            }
            return yes(1);
        } catch (ClassCastException e) {
            return no(CAST);
        } catch (ArrayIndexOutOfBoundsException e) {
            return no(INDEX);
        } catch (ArrayStoreException e) {
            return no(STORE);
        }
    }

    int at(int item, int i) {
        if (!isItem(item)) {
            return no(BAD);
        }
        try {
            return yes(number(((Object[]) items.get(item))[i]));
        } catch (ClassCastException e) {
            return no(CAST);
        } catch (ArrayIndexOutOfBoundsException e) {
            return no(INDEX);
        }
    }

    int is(int item, int form) {
        if (!isItem(item) || form < 0 || form > 13) {
            return no(BAD);
        }
        return yes(FORMS.get(form).isInstance(items.get(item)) ? 1 : 0);
    }

    int stamps(int item) {
        if (!isItem(item)) {
            no(BAD);
            return 0;
        }
        try {
            return yes(((Stamped) items.get(item)).all());
        } catch (ClassCastException e) {
            no(CAST);
            return 0;
        }
    }

    int desk(int room, int form, int act, boolean asks) {
        if (room < 0 || room > 7 || form < 0 || form > 13 || act < 0 || act > 4) {
            return no(BAD);
        }
        if (rooms.get(room).size() == 4) {
            return no(FULL);
        }
        rooms.get(room).add(new Desk());
        return yes(set(room, rooms.get(room).size() - 1, form, act, asks));
    }

    int change(int room, int desk, int form, int act, boolean asks) {
        if (!isDesk(room, desk) || form < 0 || form > 13 || act < 0 || act > 4) {
            return no(BAD);
        }
        set(room, desk, form, act, asks);
        return yes(1);
    }

    private boolean isDesk(int room, int desk) {
        return room >= 0 && room <= 7 && desk >= 0 && desk < rooms.get(room).size();
    }

    private int set(int room, int desk, int form, int act, boolean asks) {
        Desk its = rooms.get(room).get(desk);
        its.form = FORMS.get(form);
        its.act = act;
        its.asks = asks;
        return desk;
    }

    int hand(int item, int room) {
        if (!isItem(item) || room < 0 || room > 7) {
            return no(BAD);
        }
        works = 0;
        cameOut = go(items.get(item), room);
        for (List<Desk> desks : rooms) {
            for (Desk desk : desks) {
                desk.asksForNow = false;
            }
        }
        return yes(works);
    }

    private Object go(Object item, int room) {
        for (Desk desk : rooms.get(room)) {
            try {
                if ((desk.asks || desk.asksForNow) && !desk.form.isInstance(item)) {
                    continue;
                }
                desk.form.cast(item);
            } catch (ClassCastException e) {
                desk.backs++;
                backs++;
                desk.latestBack = item;
                desk.asksForNow = true;
                return null;
            }
            works++;
            desk.worked++;
            if (desk.act == 4) {
                Object before = desk.held;
                desk.held = item;
                item = before;
                if (item == null) {
                    return null;
                }
            } else {
                act(desk, item, room);
            }
        }
        return item;
    }

    private void act(Desk desk, Object item, int room) {
        if (desk.act == 0) {
            desk.tally += item.getClass().isArray() ? java.lang.reflect.Array.getLength(item) : 1;
        } else if (desk.act == 1 && item.getClass().isArray()) {
            turn(item);
        } else if (desk.act == 2) {
            stamp(item);
        } else if (desk.act == 3 && item instanceof Object[] row && room < 7) {
            for (Object thing : row) {
                if (thing != null) {
                    go(thing, room + 1);
                }
            }
        }
    }

    private static void turn(Object row) {
        int n = java.lang.reflect.Array.getLength(row);
        for (int i = 0; i < n / 2; i++) {
            Object first = java.lang.reflect.Array.get(row, i);
            java.lang.reflect.Array.set(row, i, java.lang.reflect.Array.get(row, n - 1 - i));
            java.lang.reflect.Array.set(row, n - 1 - i, first);
        }
    }

    private static void stamp(Object item) {
        if (item instanceof char[] row) {
            for (int i = 0; i < row.length; i++) {
                row[i]++;
            }
        } else if (item instanceof short[] row) {
            for (int i = 0; i < row.length; i++) {
                row[i]++;
            }
        } else if (item instanceof double[] row) {
            for (int i = 0; i < row.length; i++) {
                row[i] += 0.125;
            }
        } else if (item instanceof boolean[] row) {
            for (int i = 0; i < row.length; i++) {
                row[i] = !row[i];
            }
        } else if (item instanceof Stamped stamped) {
            stamped.addStamp();
        } else if (item instanceof Object[] row) {
            for (Object thing : row) {
                stamp(thing);
            }
        }
    }

    int out() {
        return number(cameOut);
    }

    int told(int room, int desk, int what) {
        if (!isDesk(room, desk) || what < 0 || what > 4) {
            return BAD;
        }
        Desk its = rooms.get(room).get(desk);
        return new int[] {its.tally, number(its.held), its.worked, its.backs, number(its.latestBack)}[what];
    }

    int count(int what) {
        if (what < 0 || what > 4) {
            return BAD;
        }
        return new int[] {items.size(), refusals[-CAST], refusals[-INDEX], refusals[-STORE], backs}[what];
    }

    int refused() {
        return reason;
    }
}
