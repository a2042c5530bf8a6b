/**
 * The document from its first line on: each sentence in its order, with ordinary inputs. The face is FaceTest's, the
 * 512 calls are ItemsEdgesTest's, and what each call refuses is told, edge by edge, in the tests of the boundary cases.
 */
public final class DocumentTest implements Terms {
    private static final int[] PIECES = {CARD, GOLD_CARD, TOKEN};
    private static final int[] NUMBER_ROWS = {LETTERS, TALLIES, LENGTHS, SIGNS};
    /** Each row of things or of rows with what its KIND says that it is a row of. */
    private static final int[][] ROW_AND_THING = {{SHEETS, LETTERS}, {DECK, CARD}, {GOLD_DECK, GOLD_CARD}, {TRAY, TOKEN},
        {ALBUM, DECK}, {GOLD_ALBUM, GOLD_DECK}};

    public static void main(String[] args) {
        Checks c = new Checks();
        whatItIs(c);
        kinds(c);
        rooms(c);
        acts(c);
        refusals(c);
        callsOfItems(c);
        callsOfDesks(c);
        callsThatTell(c);
        c.end();
    }

    private static void whatItIs(Checks c) {
        roomsOneBehindTheOther(c);
        itemsOfAnyKind(c);
        desksThatAskOrTake(c);
        desksThatCountTurnStampSplitAndKeep(c);
        numberedAsTheyAreMade(c);
    }

    private static void kinds(Checks c) {
        rowsOfNumbers(c);
        rowsOfThings(c);
        places(c);
        stampedOnes(c);
        forms(c);
        whatIsWhat(c);
    }

    private static void rooms(Checks c) {
        desksOfRooms(c);
        desksInOrder(c);
        asking(c);
        taking(c);
        askingForTheRest(c);
        workedOn(c);
    }

    private static void acts(Checks c) {
        counting(c);
        turning(c);
        stampingNumbers(c);
        stampingPieces(c);
        stampingRows(c);
        splitting(c);
        keeping(c);
        worksOfACall(c);
    }

    private static void refusals(Checks c) {
        refusalsChangeNothing(c);
        refusalsInOrder(c);
        anyNumber(c);
    }

    private static void callsOfItems(Checks c) {
        newObject(c);
        make(c);
        put(c);
        get(c);
        lay(c);
        layRefused(c);
        at(c);
        is(c);
        stamps(c);
    }

    private static void callsOfDesks(Checks c) {
        desk(c);
        change(c);
        hand(c);
    }

    private static void callsThatTell(Checks c) {
        out(c);
        told(c);
        count(c);
        refused(c);
    }

    private static void roomsOneBehindTheOther(Checks c) {
        c.sentence("Mail rooms, one behind the other");
        MailRooms x = Checks.oneOfEach(1);
        x.lay(ALBUM, 0, DECK);
        x.lay(DECK, 0, CARD);
        x.desk(2, ALBUM, SPLIT, true);
        x.desk(3, DECK, SPLIT, true);
        x.desk(4, CARD, STAMP, true);
        c.due("an ALBUM in a room, its DECK in the next one, its CARD in the one behind", x.hand(ALBUM, 2), 3);
        c.due("stamps of the CARD", x.stamps(CARD), 1);
        c.due("what came out of the room", x.out(), ALBUM);
    }

    private static void itemsOfAnyKind(Checks c) {
        c.sentence("items of any kind go from desk to desk");
        MailRooms x = Checks.oneOfEach(2);
        for (int kind = LETTERS; kind <= GOLD_ALBUM; kind++) {
            int room = kind % 8;
            int first = x.desk(room, kind, COUNT, true);
            int second = x.desk(room, kind, COUNT, true);
            x.hand(kind, room);
            int counted = Terms.isPiece(kind) ? 1 : 2;
            c.due("KIND " + kind + " at a desk", x.told(room, first, 0), counted);
            c.due("KIND " + kind + " at the next desk", x.told(room, second, 0), counted);
            c.due("KIND " + kind + " behind them", x.out(), kind);
        }
    }

    private static void desksThatAskOrTake(Checks c) {
        c.sentence("desks that ask what they get, or take it as what they work on and give it back when it is something else");
        MailRooms x = Checks.oneOfEach(1);
        x.desk(0, TOKEN, STAMP, true);
        x.desk(1, TOKEN, STAMP, false);
        c.due("a TOKEN to the one that asks", x.hand(TOKEN, 0), 1);
        c.due("a TOKEN to the one that takes", x.hand(TOKEN, 1), 1);
        c.due("a DECK to the one that asks", x.hand(DECK, 0), 0);
        c.due("it comes out", x.out(), DECK);
        c.due("a DECK to the one that takes", x.hand(DECK, 1), 0);
        c.due("it does not come out", x.out(), NONE);
        c.due("it was given back", x.told(1, 0, 4), DECK);
        c.due("stamps of the TOKEN", x.stamps(TOKEN), 2);
    }

    private static void desksThatCountTurnStampSplitAndKeep(Checks c) {
        c.sentence("desks that count, turn, stamp, split and keep");
        MailRooms x = new MailRooms();
        int deck = x.make(DECK, 2);
        int first = x.make(CARD, 0);
        int second = x.make(CARD, 0);
        x.lay(deck, 0, first);
        x.lay(deck, 1, second);
        x.desk(0, DECK, COUNT, true);
        x.desk(0, DECK, TURN, true);
        x.desk(0, DECK, STAMP, true);
        x.desk(0, DECK, SPLIT, true);
        x.desk(1, CARD, KEEP, true);
        c.due("hand of the DECK", x.hand(deck, 0), 6);
        c.due("counted", x.told(0, 0, 0), 2);
        c.due("turned", x.at(deck, 0), second);
        c.due("stamped", x.stamps(first), 1);
        c.due("stamped", x.stamps(second), 1);
        c.due("split and kept, the last one", x.told(1, 0, 1), first);
    }

    private static void numberedAsTheyAreMade(Checks c) {
        c.sentence("ITEMS, 60 at most, numbered as they are made, each of a KIND");
        MailRooms x = new MailRooms();
        int[] made = {TRAY, CARD, CARD, LETTERS, GOLD_ALBUM, TOKEN, SIGNS};
        for (int k = 0; k < made.length; k++) {
            c.due("make of KIND " + made[k], x.make(made[k], 1), k);
        }
        for (int k = 0; k < made.length; k++) {
            c.due("the KIND of ITEM " + k, x.is(k, made[k]), 1);
        }
    }

    private static void rowsOfNumbers(Checks c) {
        c.sentence("0 LETTERS, a row of chars; 1 TALLIES, of shorts; 2 LENGTHS, of doubles; 3 SIGNS, of booleans");
        int[] asKept = {100000 - 65536, (short) 100000, 100000, 1};
        int[] minusAsKept = {65536 - 5, -5, -5, 1};
        MailRooms x = Checks.oneOfEach(2);
        for (int row : NUMBER_ROWS) {
            x.put(row, 0, 100000);
            x.put(row, 1, -5);
            c.due("100000 in KIND " + row, x.get(row, 0), asKept[row]);
            c.due("-5 in KIND " + row, x.get(row, 1), minusAsKept[row]);
        }
    }

    private static void rowsOfThings(Checks c) {
        c.sentence("4 SHEETS, a row of LETTERS; 5 CARD; 6 GOLD CARD; 7 TOKEN; 8 DECK, a row of CARDS; 9 GOLD DECK, of GOLD "
            + "CARDS; 10 TRAY, of what is STAMPED; 11 ALBUM, a row of DECKS; 12 GOLD ALBUM, of GOLD DECKS.");
        MailRooms x = Checks.oneOfEach(3);
        for (int[] pair : ROW_AND_THING) {
            for (int i = 0; i < 3; i++) {
                c.due("lay of KIND " + pair[1] + " in KIND " + pair[0], x.lay(pair[0], i, pair[1]), 1);
                c.due("PLACE " + i + " of KIND " + pair[0], x.at(pair[0], i), pair[1]);
            }
        }
        for (int piece : PIECES) {
            c.due("lay of KIND " + piece + " in a TRAY", x.lay(TRAY, 1, piece), 1);
            c.due("PLACE 1 of the TRAY", x.at(TRAY, 1), piece);
        }
    }

    private static void places(Checks c) {
        c.sentence("Rows have 0 to 3 PLACES, from 0 on; numbers are 0 and false at first, other PLACES hold NOTHING.");
        for (int n = 0; n <= 3; n++) {
            MailRooms x = Checks.oneOfEach(n);
            for (int row : NUMBER_ROWS) {
                c.due("PLACE 0 of KIND " + row, x.get(row, 0), 0);
                c.due("refused() of " + n + " PLACES", x.refused(), n > 0 ? 0 : INDEX);
                c.due("the PLACE behind the last one", x.put(row, n, 1), INDEX);
            }
            for (int[] pair : ROW_AND_THING) {
                c.due("PLACE 0 of KIND " + pair[0], x.at(pair[0], 0), n > 0 ? NONE : INDEX);
                c.due("the PLACE behind the last one", x.at(pair[0], n), INDEX);
            }
        }
    }

    private static void stampedOnes(Checks c) {
        c.sentence("CARDS, GOLD CARDS and TOKENS are STAMPED: each has STAMPS, 0 at first.");
        MailRooms x = Checks.oneOfEach(1);
        for (int piece : PIECES) {
            c.due("STAMPS of KIND " + piece, x.stamps(piece), 0);
            c.due("refused()", x.refused(), 0);
        }
    }

    private static void forms(Checks c) {
        c.sentence("FORMS are the KINDS and 13 STAMPED.");
        MailRooms x = Checks.oneOfEach(1);
        for (int form = LETTERS; form <= STAMPED; form++) {
            c.due("is(7, " + form + ")", x.is(TOKEN, form), form == TOKEN || form == STAMPED ? 1 : 0);
            c.due("a DESK of FORM " + form, x.desk(form % 8, form, COUNT, true), form / 8);
        }
        c.due("FORM 14", x.is(TOKEN, 14), BAD);
        c.due("a DESK of FORM 14", x.desk(0, 14, COUNT, true), BAD);
    }

    private static void whatIsWhat(Checks c) {
        c.sentence("An ITEM IS of its KIND's FORM; a GOLD CARD IS a CARD, too; all three ARE STAMPED; a DECK IS a TRAY, "
            + "a GOLD DECK a DECK and a TRAY; a GOLD ALBUM IS an ALBUM; and nothing else.");
        int[][] itemAndForm = {{GOLD_CARD, CARD}, {CARD, STAMPED}, {GOLD_CARD, STAMPED}, {TOKEN, STAMPED}, {DECK, TRAY},
            {GOLD_DECK, DECK}, {GOLD_DECK, TRAY}, {GOLD_ALBUM, ALBUM}};
        int[][] not = {{CARD, GOLD_CARD}, {TOKEN, CARD}, {DECK, GOLD_DECK}, {TRAY, DECK}, {ALBUM, GOLD_ALBUM},
            {ALBUM, TRAY}, {ALBUM, DECK}, {GOLD_ALBUM, TRAY}, {GOLD_ALBUM, GOLD_DECK}, {SHEETS, LETTERS}, {SHEETS, TRAY},
            {DECK, CARD}, {DECK, STAMPED}, {TRAY, STAMPED}, {LETTERS, TALLIES}, {TALLIES, LENGTHS}};
        MailRooms x = Checks.oneOfEach(1);
        for (int kind = LETTERS; kind <= GOLD_ALBUM; kind++) {
            c.due("is(" + kind + ", its KIND's FORM)", x.is(kind, kind), 1);
        }
        for (int[] pair : itemAndForm) {
            c.due("is(" + pair[0] + ", " + pair[1] + ")", x.is(pair[0], pair[1]), 1);
        }
        for (int[] pair : not) {
            c.due("is(" + pair[0] + ", " + pair[1] + ")", x.is(pair[0], pair[1]), 0);
        }
    }

    private static void desksOfRooms(Checks c) {
        c.sentence("ROOMS 0 .. 7 have DESKS, 4 at most each, numbered from 0 on as they come, each with a FORM, an ACT, "
            + "and whether it ASKS.");
        MailRooms x = Checks.oneOfEach(1);
        c.due("DESK 0 of ROOM 5", x.desk(5, CARD, STAMP, true), 0);
        c.due("DESK 1 of ROOM 5", x.desk(5, STAMPED, COUNT, true), 1);
        c.due("DESK 0 of ROOM 6", x.desk(6, TOKEN, KEEP, false), 0);
        c.due("DESK 2 of ROOM 5", x.desk(5, TOKEN, COUNT, false), 2);
        c.due("its FORM, its ACT, and that it ASKS", x.hand(GOLD_CARD, 5), 2);
        c.due("STAMPS of the GOLD CARD", x.stamps(GOLD_CARD), 2);
        c.due("TALLY of DESK 1", x.told(5, 1, 0), 1);
        c.due("the one that does not ASK has it GIVEN BACK", x.told(5, 2, 4), GOLD_CARD);
        c.due("the other ROOM's DESK saw nobody", x.told(6, 0, 2), 0);
    }

    private static void desksInOrder(Checks c) {
        c.sentence("An ITEM that is HANDED to a ROOM comes to its DESKS in order.");
        MailRooms x = Checks.oneOfEach(2);
        x.lay(DECK, 0, CARD);
        x.desk(0, DECK, SPLIT, true);
        x.desk(0, DECK, STAMP, true);
        x.desk(1, CARD, KEEP, true);
        x.desk(0, CARD, COUNT, false);
        x.desk(0, DECK, TURN, true);
        c.due("to SPLIT, then to STAMP, then to what gives it back", x.hand(DECK, 0), 3);
        c.due("what gave it back", x.told(0, 2, 4), DECK);
        c.due("it did not come to TURN", x.at(DECK, 0), CARD);
    }

    private static void asking(Checks c) {
        c.sentence("A DESK that ASKS lets go on what IS not of its FORM");
        MailRooms x = Checks.oneOfEach(1);
        x.desk(0, SIGNS, COUNT, true);
        for (int kind = LETTERS; kind <= GOLD_ALBUM; kind++) {
            c.due("hand of KIND " + kind, x.hand(kind, 0), kind == SIGNS ? 1 : 0);
            c.due("out()", x.out(), kind);
        }
        c.due("GIVEN BACK", x.count(4), 0);
    }

    private static void taking(Checks c) {
        c.sentence("one that does not TAKES each as its FORM: what IS not of it is GIVEN BACK, and goes no further");
        MailRooms x = Checks.oneOfEach(1);
        x.desk(0, TRAY, COUNT, false);
        x.desk(0, STAMPED, STAMP, true);
        int back = 0;
        for (int kind = LETTERS; kind <= GOLD_ALBUM; kind++) {
            boolean isTray = kind == TRAY || kind == DECK || kind == GOLD_DECK;
            back += isTray ? 0 : 1;
            c.due("hand of KIND " + kind, x.hand(kind, 0), isTray ? 1 : 0);
            c.due("out()", x.out(), isTray ? kind : NONE);
            c.due("how many it has GIVEN BACK", x.told(0, 0, 3), back);
        }
        for (int piece : PIECES) {
            c.due("STAMPS of KIND " + piece, x.stamps(piece), 0);
        }
    }

    private static void askingForTheRest(Checks c) {
        c.sentence("for the rest of that call (of hand()) the DESK ASKS then");
        MailRooms x = Checks.oneOfEach(3);
        for (int i = 0; i < 3; i++) {
            x.lay(TRAY, i, PIECES[i]);
        }
        x.desk(0, TRAY, SPLIT, true);
        x.desk(1, LETTERS, COUNT, false);
        x.desk(1, STAMPED, STAMP, true);
        for (int times = 1; times <= 2; times++) {
            c.due("hand of the TRAY", x.hand(TRAY, 0), 3);
            c.due("the CARD alone was GIVEN BACK", x.told(1, 0, 3), times);
            c.due("STAMPS of the CARD", x.stamps(CARD), 0);
            c.due("STAMPS of the GOLD CARD", x.stamps(GOLD_CARD), 2 * times);
            c.due("STAMPS of the TOKEN", x.stamps(TOKEN), times);
        }
    }

    private static void workedOn(Checks c) {
        c.sentence("What IS of the FORM is WORKED on, and goes on (but as told)");
        for (int asks = 0; asks <= 1; asks++) {
            for (int act = COUNT; act <= KEEP; act++) {
                MailRooms x = Checks.oneOfEach(1);
                x.desk(0, ALBUM, act, asks == 1);
                x.desk(0, ALBUM, COUNT, asks == 1);
                boolean goesOn = act != KEEP;
                c.due("hand to ACT " + act, x.hand(GOLD_ALBUM, 0), goesOn ? 2 : 1);
                c.due("how often it WORKED", x.told(0, 0, 2), 1);
                c.due("out()", x.out(), goesOn ? GOLD_ALBUM : NONE);
            }
        }
    }

    private static void counting(Checks c) {
        c.sentence("COUNT: the DESK's TALLY grows by how many PLACES it has; 1 of what is no row.");
        MailRooms x = new MailRooms();
        x.make(ALBUM, 2);
        x.make(GOLD_ALBUM, 3);
        x.make(GOLD_CARD, 9);
        x.desk(0, ALBUM, COUNT, true);
        x.desk(0, CARD, COUNT, true);
        x.hand(0, 0);
        x.hand(1, 0);
        x.hand(2, 0);
        c.due("TALLY of 2 and 3 PLACES", x.told(0, 0, 0), 5);
        c.due("TALLY of what is no row", x.told(0, 1, 0), 1);
    }

    private static void turning(Checks c) {
        c.sentence("TURN: the PLACES of a row are turned round, the last one first.");
        for (int row : NUMBER_ROWS) {
            MailRooms x = Checks.oneOfEach(3);
            x.put(row, 0, 1);
            x.desk(0, row, TURN, true);
            x.hand(row, 0);
            for (int i = 0; i < 3; i++) {
                c.due("PLACE " + i + " of KIND " + row, x.get(row, i), i == 2 ? 1 : 0);
            }
        }
        for (int[] pair : ROW_AND_THING) {
            MailRooms x = Checks.oneOfEach(3);
            int another = x.make(pair[1], 1);
            x.lay(pair[0], 0, another);
            x.lay(pair[0], 1, pair[1]);
            x.desk(0, pair[0], TURN, true);
            x.hand(pair[0], 0);
            c.due("PLACE 0 of KIND " + pair[0], x.at(pair[0], 0), NONE);
            c.due("PLACE 1 of KIND " + pair[0], x.at(pair[0], 1), pair[1]);
            c.due("PLACE 2 of KIND " + pair[0], x.at(pair[0], 2), another);
        }
    }

    private static void stampingNumbers(Checks c) {
        c.sentence("STAMP: of LETTERS, TALLIES each number grows by 1 (in its 16 bits), of LENGTHS by 0.125, SIGNS become "
            + "the other one");
        int[][] grown = {{1, 66, 0}, {1, 66, 0}, {1, 66, 65536}, {1, 0, 0}};
        for (int row : NUMBER_ROWS) {
            MailRooms x = Checks.oneOfEach(3);
            x.put(row, 1, 65);
            x.put(row, 2, 65535);
            x.desk(0, row, STAMP, true);
            x.hand(row, 0);
            for (int i = 0; i < 3; i++) {
                c.due("PLACE " + i + " of KIND " + row, x.get(row, i), grown[row][i]);
            }
        }
    }

    private static void stampingPieces(Checks c) {
        c.sentence("a CARD, a TOKEN gets a STAMP more, a GOLD CARD 2");
        for (int form : new int[] {CARD, GOLD_CARD, TOKEN, STAMPED}) {
            MailRooms x = Checks.oneOfEach(1);
            x.desk(0, form, STAMP, true);
            for (int piece : PIECES) {
                x.hand(piece, 0);
                int each = piece == GOLD_CARD ? 2 : 1;
                c.due("STAMPS of KIND " + piece + " from FORM " + form, x.stamps(piece), each * x.is(piece, form));
            }
        }
    }

    private static void stampingRows(Checks c) {
        c.sentence("of a row of things or of rows each that is there, from PLACE 0 on, is STAMPED likewise (each as often as "
            + "it stands there)");
        MailRooms x = Checks.oneOfEach(3);
        x.lay(DECK, 0, CARD);
        x.lay(DECK, 2, GOLD_CARD);
        x.lay(GOLD_DECK, 1, GOLD_CARD);
        x.lay(ALBUM, 0, GOLD_DECK);
        x.lay(ALBUM, 1, DECK);
        x.lay(SHEETS, 1, LETTERS);
        x.desk(0, TRAY, STAMP, true);
        x.desk(0, ALBUM, STAMP, true);
        x.desk(0, SHEETS, STAMP, true);
        x.hand(DECK, 0);
        c.due("a CARD in a DECK that is taken as a TRAY", x.stamps(CARD), 1);
        c.due("a GOLD CARD in it", x.stamps(GOLD_CARD), 2);
        x.hand(GOLD_DECK, 0);
        c.due("a GOLD CARD in a GOLD DECK", x.stamps(GOLD_CARD), 4);
        x.hand(ALBUM, 0);
        c.due("a CARD in a DECK of an ALBUM", x.stamps(CARD), 2);
        c.due("a GOLD CARD in two DECKS of it", x.stamps(GOLD_CARD), 8);
        x.hand(SHEETS, 0);
        for (int i = 0; i < 3; i++) {
            c.due("PLACE " + i + " of LETTERS in SHEETS", x.get(LETTERS, i), 1);
        }
        c.due("STAMPS of what stands nowhere", x.stamps(TOKEN), 0);
    }

    private static void splitting(Checks c) {
        c.sentence("SPLIT: of a row of things or of rows each that is there, from PLACE 0 on, is HANDED to the next ROOM "
            + "(behind ROOM 7: nothing is done), with all that comes of that, ahead of the next one.");
        for (int[] pair : ROW_AND_THING) {
            MailRooms x = Checks.oneOfEach(3);
            int another = x.make(pair[1], 2);
            x.lay(pair[0], 0, pair[1]);
            x.lay(pair[0], 2, another);
            x.desk(6, pair[0], SPLIT, true);
            x.desk(7, pair[1], KEEP, true);
            x.desk(7, pair[1], COUNT, true);
            c.due("hand of KIND " + pair[0], x.hand(pair[0], 6), 4);
            c.due("the one at PLACE 2 came last", x.told(7, 0, 1), another);
            c.due("the one at PLACE 0 had gone on by then", x.told(7, 1, 0), Terms.isPiece(pair[1]) ? 1 : 3);
            c.due("the row goes on", x.out(), pair[0]);
            x.change(7, 0, pair[0], SPLIT, true);
            c.due("hand of KIND " + pair[0] + " to ROOM 7", x.hand(pair[0], 7), 1);
        }
    }

    private static void keeping(Checks c) {
        c.sentence("KEEP: the DESK holds it; what it held ahead of that goes on to the next DESK in its place (NOTHING: "
            + "nobody goes on).");
        for (int kind = LETTERS; kind <= GOLD_ALBUM; kind++) {
            MailRooms x = Checks.oneOfEach(2);
            int another = x.make(kind, 3);
            x.desk(0, kind, KEEP, true);
            x.desk(0, kind, COUNT, true);
            c.due("hand of KIND " + kind, x.hand(kind, 0), 1);
            c.due("nobody goes on", x.out(), NONE);
            c.due("hand of another", x.hand(another, 0), 2);
            c.due("the first one goes on", x.out(), kind);
            c.due("to the next DESK", x.told(0, 1, 0), Terms.isPiece(kind) ? 1 : 2);
            c.due("the other one is held", x.told(0, 0, 1), another);
        }
    }

    private static void worksOfACall(Checks c) {
        c.sentence("WORKS of a call are how often DESKS WORKED on something, in all ROOMS.");
        MailRooms x = Checks.oneOfEach(3);
        x.lay(TRAY, 0, CARD);
        x.lay(TRAY, 1, TOKEN);
        x.desk(0, TRAY, COUNT, true);
        x.desk(0, TRAY, SPLIT, true);
        x.desk(1, CARD, COUNT, true);
        x.desk(1, STAMPED, COUNT, true);
        x.desk(2, STAMPED, COUNT, true);
        c.due("2 in ROOM 0, 2 for the CARD, 1 for the TOKEN", x.hand(TRAY, 0), 5);
        int worked = 0;
        for (int desk = 0; desk <= 1; desk++) {
            worked += x.told(0, desk, 2) + x.told(1, desk, 2);
        }
        c.due("what the DESKS tell of it", worked, 5);
    }

    private static void refusalsChangeNothing(Checks c) {
        c.sentence("Refusals change nothing");
        MailRooms x = Checks.oneOfEach(1);
        x.put(TALLIES, 0, 9);
        x.lay(GOLD_DECK, 0, GOLD_CARD);
        x.put(TALLIES, 1, 8);
        x.lay(GOLD_DECK, 0, CARD);
        x.lay(GOLD_DECK, 0, TOKEN);
        x.make(TRAY, 4);
        x.desk(0, 14, 0, true);
        c.due("get(1, 0)", x.get(TALLIES, 0), 9);
        c.due("at(9, 0)", x.at(GOLD_DECK, 0), GOLD_CARD);
        c.due("count(0)", x.count(0), 13);
        c.due("the first DESK", x.desk(0, 13, 0, true), 0);
    }

    private static void refusalsInOrder(Checks c) {
        c.sentence("BAD (there is no such, or a number is not as told), then FULL, then of put(), get(), lay() CAST (it is no "
            + "such row, or what is laid IS not of the FORM told), INDEX (it has no such PLACE), STORE (the row can't hold "
            + "that)");
        MailRooms x = Checks.oneOfEach(1);
        c.due("no such ITEM, no such PLACE", x.lay(GOLD_DECK, 1, 13), BAD);
        c.due("not of the FORM told, no such PLACE", x.lay(GOLD_DECK, 1, TOKEN), CAST);
        c.due("no such PLACE, what the row can't hold", x.lay(GOLD_DECK, 1, CARD), INDEX);
        c.due("what the row can't hold", x.lay(GOLD_DECK, 0, CARD), STORE);
        c.due("no refusal", x.lay(GOLD_DECK, 0, GOLD_CARD), 1);
        for (int number = 13; number < 60; number++) {
            x.make(CARD, 0);
        }
        c.due("no such KIND, and FULL", x.make(13, 0), BAD);
        c.due("FULL", x.make(12, 0), FULL);
    }

    private static void anyNumber(Checks c) {
        c.sentence("A call that is refused and answers any number answers 0; refused() tells why.");
        MailRooms x = Checks.oneOfEach(1);
        c.due("get of a CARD", x.get(CARD, 0), 0);
        c.due("refused()", x.refused(), CAST);
        c.due("get of PLACE 1", x.get(LENGTHS, 1), 0);
        c.due("refused()", x.refused(), INDEX);
        c.due("stamps of a DECK", x.stamps(DECK), 0);
        c.due("refused()", x.refused(), CAST);
        c.due("stamps of no ITEM", x.stamps(13), 0);
        c.due("refused()", x.refused(), BAD);
    }

    private static void newObject(Checks c) {
        c.sentence("No ITEMS, ROOMS without DESKS.");
        MailRooms x = new MailRooms();
        c.due("count(0)", x.count(0), 0);
        c.due("is(0, 0)", x.is(0, 0), BAD);
        for (int room = 0; room <= 7; room++) {
            c.due("told(" + room + ", 0, 0)", x.told(room, 0, 0), BAD);
        }
    }

    private static void make(Checks c) {
        c.sentence("An ITEM: its number. n: how many PLACES (of 5 to 7 any number).");
        MailRooms x = new MailRooms();
        c.due("make(2, 3)", x.make(LENGTHS, 3), 0);
        c.due("make(6, 77)", x.make(GOLD_CARD, 77), 1);
        c.due("make(11, 2)", x.make(ALBUM, 2), 2);
        c.due("PLACE 2 of 3", x.put(0, 2, 1), 1);
        c.due("PLACE 1 of 2", x.at(2, 1), NONE);
        c.due("PLACE 2 of 2", x.at(2, 2), INDEX);
    }

    private static void put(Checks c) {
        c.sentence("PLACE i of LETTERS, TALLIES becomes v (its lowest 16 bits), of LENGTHS v by 8.0, of SIGNS whether v is "
            + "not 0: 1.");
        MailRooms x = Checks.oneOfEach(3);
        for (int row : NUMBER_ROWS) {
            c.due("put(" + row + ", 1, 1)", x.put(row, 1, 1), 1);
            c.due("refused()", x.refused(), 0);
            for (int i = 0; i < 3; i++) {
                c.due("PLACE " + i + " of KIND " + row, x.get(row, i), i == 1 ? 1 : 0);
            }
        }
    }

    private static void get(Checks c) {
        c.sentence("PLACE i of such a row: a number, of LENGTHS times 8.0 (as an int: cut toward 0, and to the ends), of SIGNS "
            + "1 or 0.");
        MailRooms x = Checks.oneOfEach(2);
        x.put(LENGTHS, 0, 1234567);
        x.put(LENGTHS, 1, -1234567);
        x.put(SIGNS, 1, -1234567);
        c.due("get(2, 0)", x.get(LENGTHS, 0), 1234567);
        c.due("get(2, 1)", x.get(LENGTHS, 1), -1234567);
        c.due("get(3, 0)", x.get(SIGNS, 0), 0);
        c.due("get(3, 1)", x.get(SIGNS, 1), 1);
    }

    private static void lay(Checks c) {
        c.sentence("An ITEM, or NOTHING (NONE), is laid at PLACE i of a row: 1.");
        MailRooms x = Checks.oneOfEach(2);
        c.due("a CARD at PLACE 0", x.lay(TRAY, 0, CARD), 1);
        c.due("a TOKEN at PLACE 1", x.lay(TRAY, 1, TOKEN), 1);
        c.due("a GOLD CARD in its stead", x.lay(TRAY, 1, GOLD_CARD), 1);
        c.due("NOTHING at PLACE 0", x.lay(TRAY, 0, NONE), 1);
        c.due("at(10, 0)", x.at(TRAY, 0), NONE);
        c.due("at(10, 1)", x.at(TRAY, 1), GOLD_CARD);
    }

    private static void layRefused(Checks c) {
        c.sentence("CAST: what is laid IS no LETTERS (for SHEETS), no CARD (8, 9), not STAMPED (10), no DECK (11, 12), or "
            + "there is no such row; INDEX; STORE: a GOLD DECK holds GOLD CARDS alone, a GOLD ALBUM GOLD DECKS.");
        MailRooms x = Checks.oneOfEach(1);
        int[][] rowThingAnswer = {{SHEETS, TALLIES, CAST}, {DECK, TOKEN, CAST}, {GOLD_DECK, TOKEN, CAST}, {TRAY, DECK, CAST},
            {ALBUM, TRAY, CAST}, {GOLD_ALBUM, TRAY, CAST}, {SIGNS, NONE, CAST}, {TOKEN, TOKEN, CAST}, {DECK, GOLD_CARD, 1},
            {ALBUM, GOLD_DECK, 1}, {GOLD_DECK, CARD, STORE}, {GOLD_ALBUM, DECK, STORE}, {GOLD_ALBUM, NONE, 1}};
        for (int[] each : rowThingAnswer) {
            c.due("lay(" + each[0] + ", 0, " + each[1] + ")", x.lay(each[0], 0, each[1]), each[2]);
        }
        c.due("lay(9, 1, 6)", x.lay(GOLD_DECK, 1, GOLD_CARD), INDEX);
    }

    private static void at(Checks c) {
        c.sentence("The ITEM at PLACE i of a row of things or of rows; NONE: NOTHING.");
        MailRooms x = Checks.oneOfEach(3);
        x.lay(DECK, 1, GOLD_CARD);
        x.lay(ALBUM, 2, DECK);
        c.due("at(8, 1)", x.at(DECK, 1), GOLD_CARD);
        c.due("at(11, 2)", x.at(ALBUM, 2), DECK);
        c.due("at of what at() tells", x.at(x.at(ALBUM, 2), 1), GOLD_CARD);
        c.due("at(11, 0)", x.at(ALBUM, 0), NONE);
    }

    private static void is(Checks c) {
        c.sentence("Whether an ITEM IS of a FORM: 1, 0.");
        MailRooms x = new MailRooms();
        x.make(GOLD_DECK, 1);
        for (int form = LETTERS; form <= STAMPED; form++) {
            c.due("is(0, " + form + ")", x.is(0, form), form >= DECK && form <= TRAY ? 1 : 0);
        }
    }

    private static void stamps(Checks c) {
        c.sentence("STAMPS of an ITEM that is STAMPED.");
        MailRooms x = Checks.oneOfEach(1);
        x.desk(0, STAMPED, STAMP, true);
        for (int times = 0; times < 3; times++) {
            x.hand(TOKEN, 0);
        }
        x.hand(GOLD_CARD, 0);
        c.due("stamps(7)", x.stamps(TOKEN), 3);
        c.due("stamps(6)", x.stamps(GOLD_CARD), 2);
        c.due("stamps(5)", x.stamps(CARD), 0);
    }

    private static void desk(Checks c) {
        c.sentence("A DESK more of a ROOM: its number.");
        MailRooms x = Checks.oneOfEach(1);
        for (int desk = 0; desk < 4; desk++) {
            c.due("desk(3, 5, 2, true)", x.desk(3, CARD, STAMP, true), desk);
            c.due("hand past " + (desk + 1) + " DESKS", x.hand(CARD, 3), desk + 1);
        }
        c.due("stamps(5)", x.stamps(CARD), 1 + 2 + 3 + 4);
    }

    private static void change(Checks c) {
        c.sentence("A DESK has another FORM and ACT, and ASKS or not; what it holds and its TALLY stay: 1.");
        MailRooms x = Checks.oneOfEach(3);
        x.desk(0, SHEETS, COUNT, true);
        x.hand(SHEETS, 0);
        c.due("change to KEEP of TOKENS", x.change(0, 0, TOKEN, KEEP, true), 1);
        c.due("hand of a TOKEN", x.hand(TOKEN, 0), 1);
        c.due("change to STAMP of CARDS", x.change(0, 0, CARD, STAMP, false), 1);
        c.due("hand of a CARD", x.hand(CARD, 0), 1);
        c.due("stamps(5)", x.stamps(CARD), 1);
        c.due("hand of SHEETS", x.hand(SHEETS, 0), 0);
        c.due("they are GIVEN BACK now", x.told(0, 0, 4), SHEETS);
        c.due("its TALLY", x.told(0, 0, 0), 3);
        c.due("what it holds", x.told(0, 0, 1), TOKEN);
    }

    private static void hand(Checks c) {
        c.sentence("An ITEM is HANDED to a ROOM: WORKS.");
        MailRooms x = Checks.oneOfEach(1);
        for (int room = 0; room <= 7; room++) {
            for (int desk = 0; desk <= room % 4; desk++) {
                x.desk(room, CARD, STAMP, true);
            }
            c.due("hand to ROOM " + room, x.hand(GOLD_CARD, room), room % 4 + 1);
        }
        c.due("stamps(6)", x.stamps(GOLD_CARD), 2 * (1 + 2 + 3 + 4) * 2);
    }

    private static void out(Checks c) {
        c.sentence("The ITEM that came out behind the last DESK of the ROOM to which the latest hand() went (not of what was "
            + "SPLIT): its number; NONE: it was GIVEN BACK, or nobody came.");
        MailRooms x = Checks.oneOfEach(1);
        x.lay(DECK, 0, CARD);
        x.desk(0, TRAY, SPLIT, false);
        x.hand(DECK, 0);
        c.due("the DECK, not its CARD", x.out(), DECK);
        x.hand(CARD, 0);
        c.due("the CARD was GIVEN BACK", x.out(), NONE);
        x.hand(CARD, 1);
        c.due("the CARD, of the ROOM of the latest hand()", x.out(), CARD);
        x.desk(0, TRAY, KEEP, false);
        x.hand(TRAY, 0);
        c.due("nobody came", x.out(), NONE);
    }

    private static void told(Checks c) {
        c.sentence("Of a DESK: what = 0 its TALLY, 1 the ITEM that it holds (NONE: NOTHING), 2 how often it WORKED, 3 how many "
            + "it has GIVEN BACK, 4 the latest of these (NONE).");
        MailRooms x = Checks.oneOfEach(3);
        x.desk(4, DECK, COUNT, false);
        int[] atFirst = {0, NONE, 0, 0, NONE};
        int[] atLast = {6, GOLD_DECK, 3, 2, ALBUM};
        toldAll(c, x, atFirst);
        x.hand(DECK, 4);
        x.hand(GOLD_DECK, 4);
        x.hand(TRAY, 4);
        x.hand(ALBUM, 4);
        x.change(4, 0, GOLD_DECK, KEEP, true);
        x.hand(GOLD_DECK, 4);
        toldAll(c, x, atLast);
    }

    private static void toldAll(Checks c, MailRooms x, int[] want) {
        for (int what = 0; what < want.length; what++) {
            c.due("told(4, 0, " + what + ")", x.told(4, 0, what), want[what]);
        }
    }

    private static void count(Checks c) {
        c.sentence("How many: 0 ITEMS, 1 CASTS, 2 INDEXES, 3 STORES that were refused, 4 ITEMS GIVEN BACK, in all.");
        MailRooms x = Checks.oneOfEach(1);
        x.desk(0, CARD, COUNT, false);
        for (int times = 1; times <= 5; times++) {
            x.hand(TOKEN, 0);
        }
        for (int times = 1; times <= 4; times++) {
            x.lay(GOLD_ALBUM, 0, DECK);
        }
        for (int times = 1; times <= 3; times++) {
            x.put(LETTERS, times, 0);
        }
        for (int times = 1; times <= 2; times++) {
            x.put(CARD, 0, 0);
        }
        int[] want = {13, 2, 3, 4, 5};
        for (int what = 0; what < want.length; what++) {
            c.due("count(" + what + ")", x.count(what), want[what]);
        }
    }

    private static void refused(Checks c) {
        c.sentence("Why the latest call but out(), told(), count(), refused() was refused (BAD, FULL, CAST, INDEX, STORE); 0: "
            + "it was not.");
        MailRooms x = Checks.oneOfEach(1);
        c.due("after calls that were not refused", x.refused(), 0);
        x.lay(GOLD_ALBUM, 0, DECK);
        c.due("the latest one", x.refused(), STORE);
        x.lay(GOLD_ALBUM, 0, ALBUM);
        c.due("the latest one", x.refused(), CAST);
        x.told(0, 0, 0);
        c.due("told() is left out", x.refused(), CAST);
        x.hand(GOLD_ALBUM, 0);
        c.due("a call that was not refused", x.refused(), 0);
    }
}
