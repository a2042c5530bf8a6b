import java.util.Arrays;

/** The boundary cases of refusals in "Terms". */
public final class RefusalsEdgesTest implements Terms {
    private interface Call {
        int on(MailRooms x);
    }

    /** A call that the furnished object refuses, and why. */
    private record Refused(String name, int why, Call call) { }

    /** In a Scene: 13 ITEMS or 60, numbered as their KINDS, 3 PLACES; two DESKS in ROOM 0, four in ROOM 1. */
    private static final Refused[] OF_ANY = {
        new Refused("make(-1, 0)", BAD, x -> x.make(-1, 0)),
        new Refused("make(13, 0)", BAD, x -> x.make(13, 0)),
        new Refused("make(0, -1)", BAD, x -> x.make(LETTERS, -1)),
        new Refused("make(0, 4)", BAD, x -> x.make(LETTERS, 4)),
        new Refused("make(12, 4)", BAD, x -> x.make(GOLD_ALBUM, 4)),
        new Refused("put(-1, 1, 0)", BAD, x -> x.put(-1, 1, 0)),
        new Refused("put(60, 1, 0)", BAD, x -> x.put(60, 1, 0)),
        new Refused("put(4, 1, 0)", CAST, x -> x.put(SHEETS, 1, 0)),
        new Refused("put(5, 1, 0)", CAST, x -> x.put(CARD, 1, 0)),
        new Refused("put(0, -1, 0)", INDEX, x -> x.put(LETTERS, -1, 0)),
        new Refused("put(3, 3, 0)", INDEX, x -> x.put(SIGNS, 3, 0)),
        new Refused("lay(-1, 1, 5)", BAD, x -> x.lay(-1, 1, CARD)),
        new Refused("lay(60, 1, NONE)", BAD, x -> x.lay(60, 1, NONE)),
        new Refused("lay(8, 1, -2)", BAD, x -> x.lay(DECK, 1, -2)),
        new Refused("lay(8, 1, 60)", BAD, x -> x.lay(DECK, 1, 60)),
        new Refused("lay(0, 1, NONE)", CAST, x -> x.lay(LETTERS, 1, NONE)),
        new Refused("lay(5, 0, 5)", CAST, x -> x.lay(CARD, 0, CARD)),
        new Refused("lay(8, 1, 7)", CAST, x -> x.lay(DECK, 1, TOKEN)),
        new Refused("lay(10, 1, 8)", CAST, x -> x.lay(TRAY, 1, DECK)),
        new Refused("lay(8, -1, NONE)", INDEX, x -> x.lay(DECK, -1, NONE)),
        new Refused("lay(8, 3, 5)", INDEX, x -> x.lay(DECK, 3, CARD)),
        new Refused("lay(9, 1, 5)", STORE, x -> x.lay(GOLD_DECK, 1, CARD)),
        new Refused("lay(12, 1, 8)", STORE, x -> x.lay(GOLD_ALBUM, 1, DECK)),
        new Refused("at(-1, 0)", BAD, x -> x.at(-1, 0)),
        new Refused("at(60, 0)", BAD, x -> x.at(60, 0)),
        new Refused("at(0, 0)", CAST, x -> x.at(LETTERS, 0)),
        new Refused("at(8, -1)", INDEX, x -> x.at(DECK, -1)),
        new Refused("at(8, 3)", INDEX, x -> x.at(DECK, 3)),
        new Refused("is(-1, 0)", BAD, x -> x.is(-1, 0)),
        new Refused("is(60, 0)", BAD, x -> x.is(60, 0)),
        new Refused("is(0, -1)", BAD, x -> x.is(0, -1)),
        new Refused("is(0, 14)", BAD, x -> x.is(0, 14)),
        new Refused("desk(-1, 0, 0)", BAD, x -> x.desk(-1, 0, 0, true)),
        new Refused("desk(8, 0, 0)", BAD, x -> x.desk(8, 0, 0, true)),
        new Refused("desk(0, -1, 0)", BAD, x -> x.desk(0, -1, 0, true)),
        new Refused("desk(0, 14, 0)", BAD, x -> x.desk(0, 14, 0, true)),
        new Refused("desk(0, 0, -1)", BAD, x -> x.desk(0, 0, -1, true)),
        new Refused("desk(0, 0, 5)", BAD, x -> x.desk(0, 0, 5, true)),
        new Refused("desk(1, 0, 0)", FULL, x -> x.desk(1, 0, 0, true)),
        new Refused("change(-1, 0, 0, 0)", BAD, x -> x.change(-1, 0, 0, 0, true)),
        new Refused("change(8, 0, 0, 0)", BAD, x -> x.change(8, 0, 0, 0, true)),
        new Refused("change(1, -1, 0, 0)", BAD, x -> x.change(1, -1, 0, 0, true)),
        new Refused("change(1, 4, 0, 0)", BAD, x -> x.change(1, 4, 0, 0, true)),
        new Refused("change(0, 2, 0, 0)", BAD, x -> x.change(0, 2, 0, 0, true)),
        new Refused("change(1, 1, -1, 0)", BAD, x -> x.change(1, 1, -1, 0, true)),
        new Refused("change(1, 1, 14, 0)", BAD, x -> x.change(1, 1, 14, 0, true)),
        new Refused("change(1, 1, 0, -1)", BAD, x -> x.change(1, 1, 0, -1, true)),
        new Refused("change(1, 1, 0, 5)", BAD, x -> x.change(1, 1, 0, 5, true)),
        new Refused("hand(-1, 1)", BAD, x -> x.hand(-1, 1)),
        new Refused("hand(60, 1)", BAD, x -> x.hand(60, 1)),
        new Refused("hand(5, -1)", BAD, x -> x.hand(CARD, -1)),
        new Refused("hand(5, 8)", BAD, x -> x.hand(CARD, 8)),
    };

    /** Those that may answer any number. */
    private static final Refused[] OF_NUMBERS = {
        new Refused("get(-1, 1)", BAD, x -> x.get(-1, 1)),
        new Refused("get(60, 1)", BAD, x -> x.get(60, 1)),
        new Refused("get(4, 1)", CAST, x -> x.get(SHEETS, 1)),
        new Refused("get(5, 1)", CAST, x -> x.get(CARD, 1)),
        new Refused("get(0, -1)", INDEX, x -> x.get(LETTERS, -1)),
        new Refused("get(3, 3)", INDEX, x -> x.get(SIGNS, 3)),
        new Refused("stamps(-1)", BAD, x -> x.stamps(-1)),
        new Refused("stamps(60)", BAD, x -> x.stamps(60)),
        new Refused("stamps(4)", CAST, x -> x.stamps(SHEETS)),
        new Refused("stamps(8)", CAST, x -> x.stamps(DECK)),
    };

    /** Only of an object with 60 ITEMS. */
    private static final Refused[] OF_FULL = {
        new Refused("make(0, 0)", FULL, x -> x.make(LETTERS, 0)),
        new Refused("make(12, 3)", FULL, x -> x.make(GOLD_ALBUM, 3)),
        new Refused("make(5, 99)", FULL, x -> x.make(CARD, 99)),
    };

    public static void main(String[] args) {
        Checks c = new Checks();
        changeNothing(c);
        badAheadOfFull(c);
        badAheadOfTheOthers(c);
        castAheadOfIndex(c);
        castAheadOfStore(c);
        indexAheadOfStore(c);
        anyNumberIsZero(c);
        c.end();
    }

    private static void changeNothing(Checks c) {
        c.sentence("Refusals change nothing");
        for (int full = 0; full <= 1; full++) {
            for (Refused refused : OF_ANY) {
                changesNothing(c, refused, full == 1, refused.why);
            }
            for (Refused refused : OF_NUMBERS) {
                changesNothing(c, refused, full == 1, 0);
            }
        }
        for (Refused refused : OF_FULL) {
            changesNothing(c, refused, true, refused.why);
        }
    }

    /** Beside its twin, which does without the refused call, the object looks and goes on the same. */
    private static void changesNothing(Checks c, Refused refused, boolean full, int answer) {
        MailRooms x = Scene.furnished(full);
        MailRooms twin = Scene.furnished(full);
        c.due(refused.name, refused.call.on(x), answer);
        c.due("refused() of " + refused.name, x.refused(), refused.why);
        c.due("count(1) after " + refused.name, x.count(1), refused.why == CAST ? 1 : 0);
        c.due("count(2) after " + refused.name, x.count(2), refused.why == INDEX ? 1 : 0);
        c.due("count(3) after " + refused.name, x.count(3), refused.why == STORE ? 1 : 0);
        c.holds("what is seen after " + refused.name, Arrays.equals(Scene.seen(x), Scene.seen(twin)));
        c.holds("what hand() does after " + refused.name, Arrays.equals(Scene.handed(x), Scene.handed(twin)));
        c.holds("what is seen at the end", Arrays.equals(Scene.seen(x), Scene.seen(twin)));
        c.due("make after " + refused.name, x.make(CARD, 0), twin.make(CARD, 0));
        c.due("desk after " + refused.name, x.desk(0, 0, 0, true), twin.desk(0, 0, 0, true));
    }

    private static void badAheadOfFull(Checks c) {
        c.sentence("BAD (there is no such, or a number is not as told), then FULL");
        MailRooms x = Scene.furnished(true);
        c.due("FULL alone", x.make(LETTERS, 3), FULL);
        c.due("kind -1", x.make(-1, 3), BAD);
        c.due("kind 13", x.make(13, 3), BAD);
        c.due("n -1", x.make(LETTERS, -1), BAD);
        c.due("n 4", x.make(LETTERS, 4), BAD);
        c.due("n 4 of a CARD is as told", x.make(CARD, 4), FULL);
        c.due("FULL alone", x.desk(1, 13, 4, true), FULL);
        c.due("form -1", x.desk(1, -1, 0, true), BAD);
        c.due("form 14", x.desk(1, 14, 0, true), BAD);
        c.due("act -1", x.desk(1, 0, -1, true), BAD);
        c.due("act 5", x.desk(1, 0, 5, true), BAD);
        c.due("refused()", x.refused(), BAD);
    }

    private static void badAheadOfTheOthers(Checks c) {
        c.sentence("BAD (there is no such, or a number is not as told), then FULL, then of put(), get(), lay() CAST");
        MailRooms x = Scene.furnished(false);
        for (int other : new int[] {LEAST, -2, 13, 60, GREATEST}) {
            c.due("BAD ahead of CAST", x.lay(LETTERS, 1, other), BAD);
            c.due("BAD ahead of CAST and INDEX", x.lay(CARD, 3, other), BAD);
            c.due("BAD ahead of INDEX", x.lay(DECK, 3, other), BAD);
            c.due("BAD ahead of STORE", x.lay(GOLD_DECK, 1, other), BAD);
            c.due("BAD ahead of INDEX", x.put(other, 3, 0), BAD);
            c.due("BAD ahead of INDEX", x.at(other, 3), BAD);
            c.due("BAD ahead of CAST", x.lay(other, 1, LETTERS), BAD);
            x.get(other, 3);
            c.due("refused()", x.refused(), BAD);
        }
        for (int what = 1; what <= 3; what++) {
            c.due("count(" + what + ")", x.count(what), 0);
        }
    }

    private static void castAheadOfIndex(Checks c) {
        c.sentence("CAST (it is no such row, or what is laid IS not of the FORM told), INDEX (it has no such PLACE)");
        MailRooms x = Scene.furnished(false);
        for (int i : new int[] {LEAST, -1, 0, 2, 3, GREATEST}) {
            for (int kind = SHEETS; kind <= GOLD_ALBUM; kind++) {
                c.due("put(" + kind + ", " + i + ", 0)", x.put(kind, i, 0), CAST);
                x.get(kind, i);
                c.due("refused() of get(" + kind + ", " + i + ")", x.refused(), CAST);
            }
            for (int kind : new int[] {LETTERS, TALLIES, LENGTHS, SIGNS, CARD, GOLD_CARD, TOKEN}) {
                c.due("at(" + kind + ", " + i + ")", x.at(kind, i), CAST);
                c.due("lay(" + kind + ", " + i + ", NONE)", x.lay(kind, i, NONE), CAST);
            }
            c.due("lay of TALLIES in SHEETS", x.lay(SHEETS, i, TALLIES), CAST);
            c.due("lay of a TOKEN in a DECK", x.lay(DECK, i, TOKEN), CAST);
            c.due("lay of a TOKEN in a GOLD DECK", x.lay(GOLD_DECK, i, TOKEN), CAST);
            c.due("lay of LETTERS in a TRAY", x.lay(TRAY, i, LETTERS), CAST);
            c.due("lay of a TRAY in an ALBUM", x.lay(ALBUM, i, TRAY), CAST);
            c.due("lay of a TRAY in a GOLD ALBUM", x.lay(GOLD_ALBUM, i, TRAY), CAST);
        }
        c.due("count(2): no INDEX was refused", x.count(2), 0);
    }

    /** What is laid in a gold row IS a CARD, or a DECK, ahead of the question whether it is a gold one. */
    private static void castAheadOfStore(Checks c) {
        c.sentence("CAST (it is no such row, or what is laid IS not of the FORM told), INDEX (it has no such PLACE), "
            + "STORE (the row can't hold that)");
        for (int kind = LETTERS; kind <= GOLD_ALBUM; kind++) {
            MailRooms x = Scene.furnished(false);
            int inDeck = kind == GOLD_CARD ? 1 : kind == CARD ? STORE : CAST;
            int inAlbum = kind == GOLD_DECK ? 1 : kind == DECK ? STORE : CAST;
            c.due("lay of KIND " + kind + " in a GOLD DECK", x.lay(GOLD_DECK, 2, kind), inDeck);
            c.due("lay of KIND " + kind + " in a GOLD ALBUM", x.lay(GOLD_ALBUM, 2, kind), inAlbum);
        }
    }

    private static void indexAheadOfStore(Checks c) {
        c.sentence("INDEX (it has no such PLACE), STORE (the row can't hold that)");
        MailRooms x = Scene.furnished(false);
        for (int i : new int[] {LEAST, -1, 0, 1, 2, 3, GREATEST}) {
            int want = i >= 0 && i < 3 ? STORE : INDEX;
            c.due("lay(9, " + i + ", 5)", x.lay(GOLD_DECK, i, CARD), want);
            c.due("refused()", x.refused(), want);
            c.due("lay(12, " + i + ", 8)", x.lay(GOLD_ALBUM, i, DECK), want);
            c.due("refused()", x.refused(), want);
        }
        c.due("count(2)", x.count(2), 8);
        c.due("count(3)", x.count(3), 6);
    }

    private static void anyNumberIsZero(Checks c) {
        c.sentence("A call that is refused and answers any number answers 0; refused() tells why.");
        for (Refused refused : OF_NUMBERS) {
            MailRooms x = Scene.furnished(false);
            c.due(refused.name, refused.call.on(x), 0);
            c.due("refused() of " + refused.name, x.refused(), refused.why);
        }
        MailRooms x = Scene.furnished(false);
        c.due("get(0, 0), a 0 that is there", x.get(LETTERS, 0), 0);
        c.due("refused()", x.refused(), 0);
        c.due("stamps(7), a 0 that is there", x.stamps(TOKEN), 0);
        c.due("refused()", x.refused(), 0);
        for (int v = NONE; v >= STORE; v--) {
            x.put(TALLIES, 0, v);
            x.put(LENGTHS, 0, v);
            c.due("get(1, 0), a number like a refusal's", x.get(TALLIES, 0), v);
            c.due("refused()", x.refused(), 0);
            c.due("get(2, 0), a number like a refusal's", x.get(LENGTHS, 0), v);
            c.due("refused()", x.refused(), 0);
        }
    }
}
