/** The boundary cases of the ACTS in "Terms". */
public final class ActsEdgesTest implements Terms {
    public static void main(String[] args) {
        Checks c = new Checks();
        countsPlaces(c);
        countsOneOfWhatIsNoRow(c);
        turns(c);
        stampsInSixteenBits(c);
        stampsLengthsAndSigns(c);
        stampsPieces(c);
        stampsAsOftenAsItStandsThere(c);
        stampsLettersAsOftenAsTheyStandThere(c);
        stampsAlbums(c);
        splitsToTheNextRoom(c);
        splitsBehindTheLastRoom(c);
        splitsWhatIsThere(c);
        splitsAheadOfTheNextOne(c);
        splitsNoRows(c);
        keeps(c);
        keepsAtEachDesk(c);
        keepsTheSame(c);
        works(c);
        c.end();
    }

    private static void countsPlaces(Checks c) {
        c.sentence("the DESK's TALLY grows by how many PLACES it has");
        for (int kind = LETTERS; kind <= GOLD_ALBUM; kind++) {
            if (!Terms.isPiece(kind)) {
                for (int n = 0; n <= 3; n++) {
                    MailRooms x = Checks.oneOfEach(n);
                    x.desk(0, kind, COUNT, false);
                    c.due("TALLY at first", x.told(0, 0, 0), 0);
                    c.due("hand of " + n + " PLACES", x.hand(kind, 0), 1);
                    c.due("TALLY of " + n + " PLACES", x.told(0, 0, 0), n);
                    x.hand(kind, 0);
                    c.due("TALLY of twice " + n + " PLACES", x.told(0, 0, 0), 2 * n);
                    c.due("out()", x.out(), kind);
                }
            }
        }
        MailRooms x = Checks.oneOfEach(3);
        x.lay(DECK, 1, CARD);
        x.desk(0, DECK, COUNT, false);
        x.hand(DECK, 0);
        c.due("TALLY of 3 PLACES, one of them filled", x.told(0, 0, 0), 3);
    }

    private static void countsOneOfWhatIsNoRow(Checks c) {
        c.sentence("1 of what is no row");
        for (int kind = CARD; kind <= TOKEN; kind++) {
            for (int n : new int[] {LEAST, -1, 0, 1, 2, 3, 4, GREATEST}) {
                MailRooms x = new MailRooms();
                x.make(kind, n);
                x.desk(0, kind, COUNT, false);
                x.hand(0, 0);
                c.due("TALLY of KIND " + kind + ", made with " + n, x.told(0, 0, 0), 1);
                x.hand(0, 0);
                c.due("TALLY of it twice", x.told(0, 0, 0), 2);
            }
        }
    }

    private static void turns(Checks c) {
        c.sentence("the PLACES of a row are turned round, the last one first");
        for (int n = 0; n <= 3; n++) {
            MailRooms x = new MailRooms();
            x.make(TALLIES, n);
            x.make(TRAY, n);
            x.desk(0, TALLIES, TURN, true);
            x.desk(0, TRAY, TURN, true);
            for (int i = 0; i < n; i++) {
                x.put(0, i, 10 + i);
                x.lay(1, i, x.make(TOKEN, 0));
            }
            for (int times = 1; times <= 2; times++) {
                c.due("hand of numbers", x.hand(0, 0), 1);
                c.due("hand of things", x.hand(1, 0), 1);
                for (int i = 0; i < n; i++) {
                    int from = times == 1 ? n - 1 - i : i;
                    c.due("PLACE " + i + " of " + n + " turned " + times, x.get(0, i), 10 + from);
                    c.due("PLACE " + i + " of " + n + " turned " + times, x.at(1, i), 2 + from);
                }
            }
        }
        MailRooms x = Checks.oneOfEach(2);
        x.lay(TRAY, 0, CARD);
        x.desk(0, TRAY, TURN, true);
        x.hand(TRAY, 0);
        c.due("NOTHING is turned, too", x.at(TRAY, 0), NONE);
        c.due("at(TRAY, 1)", x.at(TRAY, 1), CARD);
    }

    private static void stampsInSixteenBits(Checks c) {
        c.sentence("of LETTERS, TALLIES each number grows by 1 (in its 16 bits)");
        int[][] letters = {{0, 1}, {32767, 32768}, {65534, 65535}, {65535, 0}, {65536, 1}, {-1, 0}, {-2, 65535}};
        int[][] tallies = {{0, 1}, {-1, 0}, {-2, -1}, {32766, 32767}, {32767, -32768}, {-32768, -32767},
            {65535, 0}, {65536, 1}};
        stampsTo(c, LETTERS, letters);
        stampsTo(c, TALLIES, tallies);
    }

    private static void stampsLengthsAndSigns(Checks c) {
        c.sentence("of LENGTHS by 0.125, SIGNS become the other one");
        int[][] lengths = {{0, 1}, {-1, 0}, {-2, -1}, {7, 8}, {-8, -7}, {65535, 65536}, {LEAST, LEAST + 1},
            {GREATEST - 1, GREATEST}, {GREATEST, GREATEST}};
        int[][] signs = {{0, 1}, {1, 0}, {2, 0}, {-1, 0}, {65536, 0}, {LEAST, 0}};
        stampsTo(c, LENGTHS, lengths);
        stampsTo(c, SIGNS, signs);
    }

    private static void stampsTo(Checks c, int kind, int[][] fromTo) {
        for (int n = 1; n <= 3; n++) {
            MailRooms x = new MailRooms();
            x.make(kind, n);
            x.desk(0, kind, STAMP, false);
            for (int[] pair : fromTo) {
                for (int i = 0; i < n; i++) {
                    x.put(0, i, pair[0]);
                }
                c.due("hand of " + n + " numbers of KIND " + kind, x.hand(0, 0), 1);
                for (int i = 0; i < n; i++) {
                    c.due(pair[0] + " STAMPED, KIND " + kind, x.get(0, i), pair[1]);
                    c.due("refused()", x.refused(), 0);
                }
            }
        }
        MailRooms empty = new MailRooms();
        empty.make(kind, 0);
        empty.desk(0, kind, STAMP, false);
        c.due("hand of a row without PLACES", empty.hand(0, 0), 1);
    }

    private static void stampsPieces(Checks c) {
        c.sentence("a CARD, a TOKEN gets a STAMP more, a GOLD CARD 2");
        MailRooms x = Checks.oneOfEach(1);
        x.desk(0, STAMPED, STAMP, false);
        for (int times = 1; times <= 4; times++) {
            for (int kind = CARD; kind <= TOKEN; kind++) {
                x.hand(kind, 0);
                c.due("STAMPS of KIND " + kind, x.stamps(kind), kind == GOLD_CARD ? 2 * times : times);
            }
        }
        x.change(0, 0, CARD, STAMP, false);
        x.hand(GOLD_CARD, 0);
        c.due("a GOLD CARD, taken as a CARD", x.stamps(GOLD_CARD), 10);
    }

    private static void stampsAsOftenAsItStandsThere(Checks c) {
        c.sentence("each as often as it stands there");
        int[][] rowAndThing = {{DECK, CARD}, {DECK, GOLD_CARD}, {GOLD_DECK, GOLD_CARD}, {TRAY, TOKEN}, {TRAY, CARD},
            {TRAY, GOLD_CARD}};
        for (int[] pair : rowAndThing) {
            for (int times = 0; times <= 3; times++) {
                MailRooms x = Checks.oneOfEach(3);
                x.desk(0, pair[0], STAMP, false);
                for (int k = 0; k < times; k++) {
                    // From the last PLACE on, so that NOTHING stands ahead of what is there.
                    x.lay(pair[0], 2 - k, pair[1]);
                }
                c.due("hand of KIND " + pair[0], x.hand(pair[0], 0), 1);
                int due = pair[1] == GOLD_CARD ? 2 * times : times;
                c.due("STAMPS of what stands there " + times + " times", x.stamps(pair[1]), due);
                for (int other = CARD; other <= TOKEN; other++) {
                    c.due("STAMPS of KIND " + other, x.stamps(other), other == pair[1] ? due : 0);
                }
            }
        }
    }

    private static void stampsLettersAsOftenAsTheyStandThere(Checks c) {
        c.sentence("each as often as it stands there");
        for (int times = 0; times <= 3; times++) {
            for (int n = 0; n <= 3; n++) {
                MailRooms x = new MailRooms();
                x.make(LETTERS, n);
                x.make(SHEETS, 3);
                x.desk(0, SHEETS, STAMP, false);
                for (int i = 0; i < n; i++) {
                    x.put(0, i, 65533 + i);
                }
                for (int k = 0; k < times; k++) {
                    x.lay(1, 2 - k, 0);
                }
                c.due("hand of SHEETS", x.hand(1, 0), 1);
                for (int i = 0; i < n; i++) {
                    c.due("a LETTER in its 16 bits", x.get(0, i), (65533 + i + times) % 65536);
                }
            }
        }
    }

    private static void stampsAlbums(Checks c) {
        c.sentence("each as often as it stands there");
        int[][] albumDeckCard = {{ALBUM, DECK, CARD}, {ALBUM, DECK, GOLD_CARD}, {ALBUM, GOLD_DECK, GOLD_CARD},
            {GOLD_ALBUM, GOLD_DECK, GOLD_CARD}};
        for (int[] kinds : albumDeckCard) {
            for (int decks = 0; decks <= 3; decks++) {
                for (int cards = 0; cards <= 3; cards++) {
                    MailRooms x = Checks.oneOfEach(3);
                    x.desk(0, ALBUM, STAMP, false);
                    for (int k = 0; k < decks; k++) {
                        x.lay(kinds[0], 2 - k, kinds[1]);
                    }
                    for (int k = 0; k < cards; k++) {
                        x.lay(kinds[1], 2 - k, kinds[2]);
                    }
                    c.due("hand of an ALBUM", x.hand(kinds[0], 0), 1);
                    int each = kinds[2] == GOLD_CARD ? 2 : 1;
                    c.due(cards + " times in a DECK that is " + decks + " times there",
                        x.stamps(kinds[2]), each * decks * cards);
                }
            }
        }
    }

    private static void splitsToTheNextRoom(Checks c) {
        c.sentence("is HANDED to the next ROOM");
        for (int room = 0; room <= 6; room++) {
            MailRooms x = splitter(room);
            c.due("hand to ROOM " + room, x.hand(DECK, room), 2);
            for (int other = 0; other <= 7; other++) {
                int want = other == room + 1 ? 1 : 0;
                c.due("ROOM " + other + " WORKED on what ROOM " + room + " SPLIT", x.told(other, 0, 2), want);
            }
            c.due("STAMPS", x.stamps(CARD), 1);
            c.due("out(): the DECK goes on", x.out(), DECK);
        }
    }

    private static void splitsBehindTheLastRoom(Checks c) {
        c.sentence("behind ROOM 7: nothing is done");
        MailRooms x = splitter(7);
        c.due("hand to ROOM 7", x.hand(DECK, 7), 1);
        for (int room = 0; room <= 7; room++) {
            c.due("ROOM " + room + " WORKED on CARDS", x.told(room, 0, 2), 0);
            c.due("ROOM " + room + " has GIVEN BACK", x.told(room, 0, 3), 0);
        }
        c.due("STAMPS", x.stamps(CARD), 0);
        c.due("how often the DESK that SPLITS WORKED", x.told(7, 1, 2), 1);
        c.due("out(): the DECK goes on", x.out(), DECK);
        c.due("at(DECK, 0)", x.at(DECK, 0), CARD);
    }

    /** Every ROOM STAMPS CARDS; that one SPLITS DECKS, too. The DECK has one CARD. */
    private static MailRooms splitter(int room) {
        MailRooms x = Checks.oneOfEach(1);
        x.lay(DECK, 0, CARD);
        for (int each = 0; each <= 7; each++) {
            x.desk(each, CARD, STAMP, true);
        }
        x.desk(room, DECK, SPLIT, false);
        return x;
    }

    private static void splitsWhatIsThere(Checks c) {
        c.sentence("of a row of things or of rows each that is there, from PLACE 0 on");
        int[][] rowAndThing = {{SHEETS, LETTERS}, {DECK, CARD}, {GOLD_DECK, GOLD_CARD}, {TRAY, TOKEN}, {ALBUM, DECK},
            {GOLD_ALBUM, GOLD_DECK}};
        for (int[] pair : rowAndThing) {
            for (int filled = 0; filled <= 7; filled++) {
                MailRooms x = new MailRooms();
                x.make(pair[0], 3);
                x.desk(0, pair[0], SPLIT, false);
                x.desk(1, pair[1], KEEP, false);
                int[] there = new int[3];
                int many = 0;
                for (int i = 0; i < 3; i++) {
                    int thing = x.make(pair[1], 1);
                    if ((filled >> i & 1) == 1) {
                        x.lay(0, i, thing);
                        there[many++] = thing;
                    }
                }
                c.due("hand of KIND " + pair[0] + ", filled " + filled, x.hand(0, 0), 1 + many);
                c.due("what came last", x.told(1, 0, 1), many == 0 ? NONE : there[many - 1]);
                x.change(1, 0, SIGNS, KEEP, false);
                c.due("hand to a DESK that gives back the first", x.hand(0, 0), 1);
                c.due("what came first", x.told(1, 0, 4), many == 0 ? NONE : there[0]);
                c.due("how many were GIVEN BACK", x.told(1, 0, 3), Math.min(many, 1));
            }
        }
    }

    /** CARD 4, from the first DECK, lets ROOM 2 turn the second one before ROOM 1 SPLITS that. */
    private static void splitsAheadOfTheNextOne(Checks c) {
        c.sentence("with all that comes of that, ahead of the next one");
        MailRooms x = new MailRooms();
        x.make(ALBUM, 2);
        x.make(DECK, 1);
        x.make(DECK, 2);
        x.make(CARD, 0);
        x.make(CARD, 0);
        x.make(CARD, 0);
        x.lay(0, 0, 1);
        x.lay(0, 1, 2);
        x.lay(1, 0, 4);
        x.lay(2, 0, 3);
        x.lay(2, 1, 5);
        x.desk(0, ALBUM, SPLIT, false);
        x.desk(1, DECK, SPLIT, false);
        x.desk(2, DECK, KEEP, true);
        x.desk(2, DECK, TURN, true);
        x.hand(2, 2);
        x.change(2, 0, CARD, KEEP, true);
        c.due("hand(0, 0)", x.hand(0, 0), 7);
        c.due("the second DECK was turned first: its CARD 3 came last", x.told(2, 0, 1), 3);
        c.due("at(2, 0)", x.at(2, 0), 5);
        c.due("out()", x.out(), 0);
    }

    private static void splitsNoRows(Checks c) {
        c.sentence("of a row of things or of rows");
        for (int kind = LETTERS; kind <= TOKEN; kind++) {
            if (kind != SHEETS) {
                MailRooms x = Checks.oneOfEach(3);
                x.desk(0, kind, SPLIT, false);
                x.desk(1, TRAY, COUNT, false);
                c.due("hand of KIND " + kind, x.hand(kind, 0), 1);
                c.due("count(4): nobody came to ROOM 1", x.count(4), 0);
                c.due("out()", x.out(), kind);
            }
        }
    }

    private static void keeps(Checks c) {
        c.sentence("what it held ahead of that goes on to the next DESK in its place (NOTHING: nobody goes on)");
        MailRooms x = Checks.oneOfEach(1);
        x.desk(0, STAMPED, STAMP, true);
        x.desk(0, STAMPED, KEEP, true);
        x.desk(0, STAMPED, COUNT, true);
        c.due("hand while NOTHING is held", x.hand(TOKEN, 0), 2);
        c.due("out()", x.out(), NONE);
        c.due("what is held", x.told(0, 1, 1), TOKEN);
        c.due("the next DESK's TALLY", x.told(0, 2, 0), 0);
        c.due("hand of another", x.hand(CARD, 0), 3);
        c.due("out()", x.out(), TOKEN);
        c.due("what is held", x.told(0, 1, 1), CARD);
        c.due("the next DESK's TALLY", x.told(0, 2, 0), 1);
        c.due("STAMPS of what went on: it did not begin anew", x.stamps(TOKEN), 1);
        c.due("hand of what IS not of the FORM", x.hand(DECK, 0), 0);
        c.due("what is held", x.told(0, 1, 1), CARD);
        c.due("out()", x.out(), DECK);
        c.due("hand of a third", x.hand(GOLD_CARD, 0), 3);
        c.due("out()", x.out(), CARD);
        c.due("what is held", x.told(0, 1, 1), GOLD_CARD);
    }

    private static void keepsAtEachDesk(Checks c) {
        c.sentence("what it held ahead of that goes on to the next DESK in its place (NOTHING: nobody goes on)");
        for (int keeping = 0; keeping < 4; keeping++) {
            MailRooms x = Checks.oneOfEach(1);
            for (int desk = 0; desk < 4; desk++) {
                x.desk(7, STAMPED, desk == keeping ? KEEP : STAMP, false);
            }
            c.due("hand to a DESK " + keeping + " that KEEPS", x.hand(CARD, 7), keeping + 1);
            c.due("out()", x.out(), NONE);
            c.due("hand of the next", x.hand(TOKEN, 7), 4);
            c.due("out()", x.out(), CARD);
            c.due("STAMPS of the first, ahead and behind", x.stamps(CARD), 3);
            c.due("STAMPS of the next, ahead alone", x.stamps(TOKEN), keeping);
        }
    }

    private static void keepsTheSame(Checks c) {
        c.sentence("what it held ahead of that goes on to the next DESK in its place (NOTHING: nobody goes on)");
        MailRooms x = Checks.oneOfEach(1);
        x.lay(DECK, 0, CARD);
        x.desk(0, DECK, SPLIT, true);
        x.desk(0, DECK, SPLIT, true);
        x.desk(1, CARD, KEEP, true);
        x.desk(1, CARD, STAMP, true);
        c.due("the CARD comes twice, is held, and goes on itself", x.hand(DECK, 0), 5);
        c.due("STAMPS", x.stamps(CARD), 1);
        c.due("what is held", x.told(1, 0, 1), CARD);
        c.due("hand of what is held", x.hand(CARD, 1), 2);
        c.due("out()", x.out(), CARD);
        c.due("what is held", x.told(1, 0, 1), CARD);
    }

    private static void works(Checks c) {
        c.sentence("WORKS of a call are how often DESKS WORKED on something, in all ROOMS.");
        for (int desks = 0; desks <= 4; desks++) {
            for (int places = 0; places <= 3; places++) {
                MailRooms x = Checks.oneOfEach(places);
                for (int desk = 0; desk < desks; desk++) {
                    x.desk(6, DECK, SPLIT, true);
                    x.desk(7, CARD, STAMP, true);
                }
                for (int i = 0; i < places; i++) {
                    x.lay(DECK, i, CARD);
                }
                int stamped = desks * places * desks;
                c.due("WORKS", x.hand(DECK, 6), desks + stamped);
                c.due("STAMPS", x.stamps(CARD), stamped);
                c.due("WORKS of the next call are its own", x.hand(CARD, 7), desks);
                c.due("WORKS in no ROOM's DESKS", x.hand(CARD, 0), 0);
            }
        }
    }
}
