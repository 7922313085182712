/** Part 1 of the document and "LAID": each bound of a TEXT, of its ITEMS and of how many there may be, on both sides. */
public final class TextEdgesTest extends Seas {
    private static final String LETTERS = "nltmg";
    /** Of each letter in LETTERS: the least and the most of each number, with 24 PLACES, and how many ITEMS there may be. */
    private static final int[][] LEAST = {{4}, {0, 0, 1}, {0, 0, 0, 0}, {0, 0}, {0, 0, 0}};
    private static final int[][] MOST = {{24}, {6, 9, 9}, {23, 7, 20, 20}, {7, 23}, {7, 23, 9}};
    private static final int[] MANY = {50, 8, 6, 8, 5};
    /** All that can be told at once: 8 LEVELS, 6 TOWNS, 8 MARKETS, 5 THINGS. */
    private static final String ALL = "n9;" + "l3,5,2;".repeat(8)
        + "t0,0,1,2;t1,1,2,3;t2,2,3,4;t3,3,4,5;t4,6,5,6;t5,7,6,7;"
        + "m0,8;m1,8;m2,8;m3,8;m4,8;m5,8;m6,8;m7,8;g0,0,0;g1,8,3;g5,7,5;g6,1,7;g7,8,9;";

    public static void main(String[] args) {
        lettersOfTheText();
        atMost200Letters();
        wipedAndWritten();
        firstLetters();
        figures();
        marks();
        howManyNumbers();
        boundsOfNumbers();
        placesThereAre();
        placesAhead();
        lastPlacesCount();
        howManyItems();
        allAtOnce();
        firstFault();
        aLevelAtLeast();
        levelsThatThereAre();
        townsApart();
        noTownAtAMarket();
        whatLaysAnew();
        laidBehindNo();
        numbersAsTold();
        firstSea();
        end("all edges of TEXTS hold");
    }

    private static String item(int kind, int[] numbers) {
        StringBuilder s = new StringBuilder().append(LETTERS.charAt(kind));
        for (int i = 0; i < numbers.length; i++) s.append(i == 0 ? "" : ",").append(numbers[i]);
        return s.append(';').toString();
    }

    private static String itemWith(int kind, int slot, int number) {
        int[] numbers = LEAST[kind].clone();
        numbers[slot] = number;
        return item(kind, numbers);
    }

    /** An ITEM with one number written as told, however wrong. */
    private static String itemWith(int kind, int slot, String number) {
        StringBuilder s = new StringBuilder().append(LETTERS.charAt(kind));
        for (int i = 0; i < LEAST[kind].length; i++) s.append(i == 0 ? "" : ",").append(i == slot ? number : "" + LEAST[kind][i]);
        return s.append(';').toString();
    }

    /** Alone it has its FAULT at 0 or none; behind another ITEM it is the same, further on. */
    private static void good(String item) {
        faultOf(item, NONE);
        faultOf("n24;" + item, NONE);
    }

    private static void bad(String item) {
        faultOf("n24;" + item, 4);
        faultOf("n24;n24;" + item + "x", 8);
    }

    private static void lettersOfTheText() {
        of("write: a letter (32 to 126)");
        for (int c = -2; c <= 300; c++) {
            boolean taken = c >= 32 && c <= 126;
            due("write " + c, new HungFromIce().write(c), taken ? 1 : BAD);
        }
        int[] farOff = {Integer.MIN_VALUE, Integer.MAX_VALUE, 'n' + 256, 'n' + 65536, 'n' - 256};
        for (int c : farOff) due("write " + c, new HungFromIce().write(c), BAD);
        HungFromIce x = written("n9");
        x.write(31);
        x.write(127);
        due("length behind BADs", x.write(';'), 3);
        due("no BAD one came behind", x.fault(), NONE);
        x.write(32);
        due("a blank came behind", x.fault(), 3);
    }

    private static void atMost200Letters() {
        of("letters (200 at most)");
        String lead = "n4;".repeat(58) + "n7;" + "n04;";
        String full = lead + "l6,9,08;" + "l5,8,7;" + "n4;x";
        due("letters", full.length(), 200);
        faultOf(full, 196);
        String laid = lead + "l3,0,1;" + "l0,0,1;" + "l6,9,8;".substring(0, 5);
        due("letters", laid.length(), 200);
        faultOf(laid, 195);
        HungFromIce cutOff = written(laid);
        due("the 201st", cutOff.write(';'), FULL);
        due("the 201st is not there", cutOff.fault(), 195);
        due("nor laid", cutOff.lay(), NO);
        due("length", cutOff.count(9), 200);
        String whole = "n4;".repeat(55) + "n09;" + "n5;" + "l3,0,1;" + "l0,0,1;" + "l6,9,8;" + "l5,8,7;";
        due("letters", whole.length(), 200);
        HungFromIce x = sea(whole);
        due("LEVELS of 200 letters", x.count(0), 4);
        due("PLACES of 200 letters", x.count(1), 5);
        due("the last ITEM of 200 letters", x.level(3, 0) * 100 + x.level(3, 1) * 10 + x.level(3, 2), 587);
        due("the 201st", x.write(';'), FULL);
        due("still laid", x.lay(), 4);
        HungFromIce y = written("n4;".repeat(66) + "n");
        due("letters", y.count(9), 199);
        due("the 200th", y.write('9'), 200);
        due("the 201st", y.write(';'), FULL);
        due("fault of the last one", y.fault(), 198);
        due("wipe of 200", y.wipe(), 200);
        due("room again", y.write('n'), 1);
        faultOf("n4;".repeat(66) + "x", 198);
        faultOf("n04;" + "n4;".repeat(65) + "x", 199);
    }

    private static void wipedAndWritten() {
        of("THE TEXT is empty");
        HungFromIce x = new HungFromIce();
        due("wipe of none", x.wipe(), 0);
        due("fault of none", x.fault(), NONE);
        due("lay of none", x.lay(), NO);
        write(x, "l3,5,1;t0,0,0,0;");
        due("wipe", x.wipe(), 16);
        due("nothing is left of it", x.fault(), NONE);
        due("nothing to lay", x.lay(), NO);
        write(x, "l3,5,1;");
        due("TOWNS of the wiped one do not come again", x.lay() * 10L + x.count(2), 10);
    }

    private static void firstLetters() {
        of("ITEMS, each a letter");
        String[] rests = {"4;", "0,0,1;", "0,0,0,1;", "0,0;", "0,0,1;"};
        String[] good = {"n", "lg", "t", "m", "lg"};
        for (int i = 0; i < rests.length; i++) {
            for (char c = 32; c <= 126; c++) {
                String item = c + rests[i];
                if (good[i].indexOf(c) >= 0) good(item); else bad(item);
            }
            bad(rests[i]);
        }
        for (int k = 0; k < LETTERS.length(); k++) {
            String item = item(k, LEAST[k]);
            bad(" " + item);
            bad(item.substring(0, 1) + item);
            faultOf(item + " ", item.length());
            faultOf(item + ";", item.length());
        }
    }

    private static void figures() {
        of("numbers (one or two figures)");
        for (int k = 0; k < LETTERS.length(); k++) {
            for (int i = 0; i < LEAST[k].length; i++) {
                int number = LEAST[k][i];
                good(itemWith(k, i, "" + number));
                good(itemWith(k, i, "0" + number));
                bad(itemWith(k, i, ""));
                bad(itemWith(k, i, "00" + number));
                bad(itemWith(k, i, "000" + number));
                bad(itemWith(k, i, "-" + number));
                bad(itemWith(k, i, "+" + number));
                bad(itemWith(k, i, " " + number));
                bad(itemWith(k, i, number + " "));
                bad(itemWith(k, i, number + "."));
                // the letters next to the figures 0 and 9
                bad(itemWith(k, i, "/"));
                bad(itemWith(k, i, ":"));
                bad(itemWith(k, i, "0/"));
                bad(itemWith(k, i, "0:"));
                bad(itemWith(k, i, "a"));
            }
        }
        HungFromIce x = sea("n09;l06,09,09;l00,00,01;t08,01,09,07;m01,00;g01,06,05;");
        due("l06,09,09;", x.level(0, 0) * 100 + x.level(0, 1) * 10 + x.level(0, 2), 699);
        due("n09;", x.count(1), 9);
        due("t08,01,09,07;", x.town(0, 0) * 1000 + x.town(0, 1) * 100 + x.town(0, 2) * 10 + x.town(0, 3), 1897);
        due("g01,06,05;", x.thing(0, 0) * 100 + x.thing(0, 1) * 10 + x.thing(0, 2), 165);
    }

    private static void marks() {
        of("numbers parted by , and a ; behind the last one");
        for (int k = 0; k < LETTERS.length(); k++) {
            String item = item(k, LEAST[k]);
            for (int at = 2; at < item.length(); at += 2) {
                for (char c = 32; c <= 126; c++) {
                    if (c != item.charAt(at)) bad(item.substring(0, at) + c + item.substring(at + 1));
                }
                // one mark too many, none at all, the end of THE TEXT
                bad(item.substring(0, at) + "," + item.substring(at));
                bad(item.substring(0, at));
                bad(item.substring(0, at - 1));
            }
            bad(item.substring(0, 1) + "," + item.substring(1));
            bad(item.substring(0, item.length() - 1) + ",;");
        }
    }

    private static void howManyNumbers() {
        of("ITEMS: how many numbers each has");
        for (int k = 0; k < LETTERS.length(); k++) {
            StringBuilder numbers = new StringBuilder().append(LETTERS.charAt(k)).append(';');
            bad(numbers.toString());
            for (int many = 1; many <= 7; many++) {
                numbers.insert(numbers.length() - 1, (many == 1 ? "" : ",") + (k == 0 ? 4 : 1));
                if (many == LEAST[k].length) good(numbers.toString()); else bad(numbers.toString());
            }
        }
    }

    private static void boundsOfNumbers() {
        of("the least and the most of each number");
        for (int k = 0; k < LETTERS.length(); k++) {
            for (int i = 0; i < LEAST[k].length; i++) {
                for (int number = 0; number <= 99; number++) {
                    String item = itemWith(k, i, number);
                    boolean so = number >= LEAST[k][i] && number <= MOST[k][i];
                    faultOf("n24;" + item, so ? NONE : 4);
                }
            }
            faultOf("n24;" + item(k, MOST[k]), NONE);
        }
    }

    private static void placesThereAre() {
        of("at PLACE X: of N (4 to 24; 12 without)");
        for (int n = 3; n <= 24; n++) {
            String lead = n == 3 ? "" : "n" + n + ";";
            int places = n == 3 ? 12 : n;
            for (int x = places - 1; x <= places; x++) {
                int want = x < places ? NONE : lead.length();
                faultOf(lead + "t" + x + ",7,0,0;", want);
                faultOf(lead + "m7," + x + ";", want);
                faultOf(lead + "g7," + x + ",0;", want);
            }
            due("PLACES round", sea(lead + "l0,0,1;").count(1), places);
        }
        HungFromIce x = sea("n24;l3,0,1;t23,0,0,0;g0,23,0;m0,22;");
        due("the last PLACE of 24", x.town(0, 1) * 100 + x.thing(0, 1), 2323);
        write(x, "l3,0,1;t12,0,0,0;");
        due("12 without, though there were 24", x.fault(), 7);
        write(x, "l3,0,1;t11,0,0,0;");
        due("11 is the last one of 12", x.lay() * 10000L + x.count(1) * 100 + x.town(0, 1), 11211);
    }

    private static void placesAhead() {
        of("no other ITEM ahead of n but n");
        for (int k = 1; k < LETTERS.length(); k++) {
            String other = item(k, LEAST[k]);
            faultOf("n9;n5;" + other, NONE);
            faultOf(other + "n9;", other.length());
            faultOf("n9;" + other + "n9;", 3 + other.length());
            faultOf("n9;" + other + other + "n12;", 3 + 2 * other.length());
            faultOf("n9;" + other + "n9;" + other, 3 + other.length());
        }
    }

    private static void lastPlacesCount() {
        of("of several n the last one counts");
        due("24, then 4", sea("n24;n4;l3,0,1;").count(1), 4);
        due("4, then 24", sea("n4;n24;l3,0,1;t23,0,0,0;").count(1), 24);
        due("three", sea("n4;n24;n7;l3,0,1;").count(1), 7);
        faultOf("n24;n4;l3,0,1;t4,0,0,0;", 14);
        faultOf("n4;n24;l3,0,1;t23,0,0,0;", NONE);
        faultOf("n24;n4;n3;", 7);
        faultOf("n24;n25;", 4);
    }

    private static void howManyItems() {
        of("8 LEVELS, 6 TOWNS, 8 MARKETS, 5 THINGS at most");
        for (int k = 0; k < LETTERS.length(); k++) {
            String least = item(k, LEAST[k]), most = item(k, MOST[k]);
            String full = "n24;" + least.repeat(MANY[k] - 1);
            faultOf(full, NONE);
            faultOf(full + least, NONE);
            faultOf(full + least + least, k == 0 ? NONE : full.length() + least.length());
            if (k > 0) faultOf(full + most + most, full.length() + most.length());
        }
        of("MARKETS: 8 at most (the same again as well)");
        faultOf("n9;" + "m0,3;".repeat(8), NONE);
        faultOf("n9;" + "m0,3;".repeat(9), 43);
        faultOf("n9;" + "m0,3;".repeat(8) + "m1,3;", 43);
        HungFromIce x = sea("n9;l3,0,1;" + "m0,3;".repeat(8));
        due("one PLACE shut out", x.whence(0), 8);
        due("round it", x.time(0, 2, 0, 4), 7);
    }

    private static void allAtOnce() {
        of("8 LEVELS, 6 TOWNS, 8 MARKETS, 5 THINGS together");
        faultOf(ALL, NONE);
        String[] more = {"n9;", "l3,5,2;", "t8,7,0,0;", "m0,0;", "g0,0,0;"};
        for (String item : more) faultOf(ALL + item, ALL.length());
        HungFromIce x = sea(ALL);
        int[] counts = {8, 9, 6, 5, 0, 0, 0, 0, 0, ALL.length()};
        for (int i = 0; i < counts.length; i++) due("count " + i, x.count(i), counts[i]);
        due("the last LEVEL", x.level(7, 0) * 100 + x.level(7, 1) * 10 + x.level(7, 2), 352);
        due("the last TOWN", x.town(5, 0) * 1000 + x.town(5, 1) * 100 + x.town(5, 2) * 10 + x.town(5, 3), 7567);
        due("the last THING", x.thing(4, 0) * 100 + x.thing(4, 1) * 10 + x.thing(4, 2), 789);
        for (int l = 0; l < 8; l++) due("the MARKET at LEVEL " + l, x.time(l, 8, l, 0), NONE);
        due("PLACES that are none", x.whence(0), 64);
    }

    private static void firstFault() {
        of("FAULT: the first letter of the first ITEM that is not so");
        faultOf("x", 0);
        faultOf("n9;x;y;", 3);
        faultOf("n9;l7,0,1;x", 3);
        faultOf("n9;l3,0,1;l7,0,1;l3,0,1;", 10);
        faultOf("l3,0,1;t0,8,0,0;n4;", 7);
        faultOf("n9;l3,0,1;t0,0,0,0;m0,9;g0,0,0;", 19);
        faultOf("n9;l3,0,1;t0,0,0,0;m0,8;g0,0,0;", NONE);
        of("FAULT: what only keeps a TEXT from being LAID is none");
        faultOf("t0,7,0,0;t0,7,0,0;m7,0;g7,0,0;", NONE);
        HungFromIce x = written("l3,0,1;x");
        due("fault", x.fault(), 7);
        x.wipe();
        due("fault of the empty TEXT behind one", x.fault(), NONE);
    }

    private static void cannotBeLaid(String text) {
        HungFromIce x = written(text);
        due("lay of " + text, x.lay(), NO);
        due("lay again of " + text, x.lay(), NO);
        due("the sea behind " + text, x.count(0) * 1000 + x.count(1) * 10 + x.count(2), 3122);
    }

    private static void aLevelAtLeast() {
        of("LAID: of a LEVEL at least");
        cannotBeLaid("");
        cannotBeLaid("n24;");
        cannotBeLaid("t0,0,0,0;");
        cannotBeLaid("m0,0;");
        cannotBeLaid("g0,0,0;");
        due("one LEVEL", written("l3,0,1;").lay(), 1);
        due("eight", written("l3,0,1;".repeat(8)).lay(), 8);
        of("LAID: without FAULT");
        cannotBeLaid("l3,0,1;x");
        cannotBeLaid("xl3,0,1;");
        cannotBeLaid("l3,0,1;l3,0,1");
        cannotBeLaid("l3,0,1;n9;");
        cannotBeLaid("l3,0,1;".repeat(9));
        cannotBeLaid("l3,0,1;t12,0,0,0;");
    }

    private static void levelsThatThereAre() {
        of("LAID: all L of which there are");
        for (int levels = 1; levels <= 8; levels++) {
            String there = "l3,0,1;".repeat(levels);
            for (int l = levels - 1; l < 8; l++) {
                for (String item : new String[] {"t0," + l + ",0,0;", "m" + l + ",0;", "g" + l + ",0,0;"}) {
                    due("lay of " + levels + " LEVELS, " + item, written(there + item).lay(), l < levels ? levels : NO);
                    due("lay of " + item + ", " + levels + " LEVELS", written(item + there).lay(), l < levels ? levels : NO);
                }
            }
        }
        cannotBeLaid("l3,0,1;" + "t0,0,0,0;t1,0,0,0;t2,0,0,0;t3,0,0,0;t4,0,0,0;t5,1,0,0;");
        cannotBeLaid("l3,0,1;" + "m0,0;".repeat(7) + "m1,0;");
        cannotBeLaid("l3,0,1;" + "g0,0,0;".repeat(4) + "g1,0,0;");
    }

    private static void townsApart() {
        of("LAID: no two TOWNS at one LEVEL and PLACE");
        for (int t = 0; t < 6; t++) {
            for (int u = 0; u < t; u++) {
                StringBuilder s = new StringBuilder("l3,0,1;l3,0,1;");
                for (int i = 0; i < 6; i++) s.append('t').append(i == t ? u : i).append(",0,").append(i).append(",0;");
                cannotBeLaid(s.toString());
            }
        }
        due("at one PLACE of all LEVELS", written("l3,0,1;".repeat(6) + "t3,0,0,0;t3,1,0,0;t3,2,0,0;t3,3,0,0;t3,4,0,0;t3,5,0,0;").lay(), 6);
        due("at one LEVEL, next to one another", written("n6;l3,0,1;t0,0,0,0;t1,0,0,0;t2,0,0,0;t3,0,0,0;t4,0,0,0;t5,0,0,0;").lay(), 1);
    }

    private static void noTownAtAMarket() {
        of("LAID: no TOWN at a MARKET");
        for (int t = 0; t < 6; t++) {
            for (int m = 0; m < 8; m++) {
                StringBuilder s = new StringBuilder("n24;l3,0,1;l3,0,1;");
                for (int i = 0; i < 6; i++) s.append('t').append(i).append(",0,0,0;");
                for (int i = 0; i < 8; i++) s.append('m').append(i == m ? "0," + t : "1," + i).append(';');
                cannotBeLaid(s.toString());
            }
        }
        cannotBeLaid("m0,3;l3,0,1;t3,0,0,0;");
        due("a MARKET at that PLACE of the next LEVEL, at the next PLACE", written("l3,0,1;l3,0,1;t3,0,0,0;m1,3;m0,2;m0,4;").lay(), 2);
        of("LAID: THINGS may be anywhere");
        HungFromIce x = sea("l3,0,1;t3,0,0,0;m0,4;g0,4,0;g0,3,0;g0,3,0;");
        due("at a MARKET, at a TOWN, at another THING", spot(x, 0) * 10000 + spot(x, 1) * 100 + spot(x, 2), 40303);
        due("not CAUGHT where it is told", x.thing(1, 3), NONE);
    }

    private static void whatLaysAnew() {
        of("lay: no STEP gone by, nothing HEARD, DRIFTED, UNDONE, KEPT; THE TEXT stays");
        HungFromIce x = new HungFromIce();
        String text = "n4;l5,5,2;t1,0,0,0;g0,1,5;";
        for (int round = 0; round < 3; round++) {
            write(x, text);
            due("lay", x.lay(), 1);
            x.keep();
            x.keep();
            for (int i = 0; i < 9; i++) x.steps(2);
            for (int i = 0; i < 6; i++) x.heard(0, i);
            for (int i = 0; i < 6; i++) x.drifted(0, 0, 0, 1);
            x.hang(0, 3);
            x.letGo(0, 9);
            x.cut(0);
            due("lay again", x.lay(), 1);
            int[] counts = {1, 4, 1, 1, 0, 0, 0, 0, 0, text.length()};
            for (int i = 0; i < counts.length; i++) due("count " + i, x.count(i), counts[i]);
            due("undo", x.undo(), NO);
            due("back", x.back(), NO);
            due("hush", x.hush(), 0);
            due("forget", x.forget(), 0);
            due("TOWN as told", x.town(0, 1) * 10 + x.town(0, 4), 10);
            due("THING as told", spot(x, 0), 1);
            due("CAUGHT by nobody", x.thing(0, 3), NONE);
            due("all CURRENTS", x.currents(0), 127);
            due("from anywhere", x.whence(0), 4);
            due("room for 2 KEPT", x.keep() + x.keep(), 3);
            due("the first STEP", x.steps(1), 1);
        }
    }

    private static void laidBehindNo() {
        of("lay: NO: nothing changes then");
        HungFromIce x = new HungFromIce();
        String[] none = {"n24;l3,0,1;l4,0,1;t23,0,0,0;t23,0,0,0;", "n24;m0,0;m0,1;", "n24;l3,0,1;t0,0,0,0;m0,1;g0,0,0;x"};
        for (String text : none) {
            write(x, text);
            due("lay of " + text, x.lay(), NO);
            write(x, "l3,5,1;t11,0,4,9;");
            due("lay behind it", x.lay(), 1);
            due("PLACES, TOWNS, THINGS", x.count(1) * 100 + x.count(2) * 10 + x.count(3), 1210);
            due("the TOWN", x.town(0, 1) * 100 + x.town(0, 2) * 10 + x.town(0, 3), 1149);
            due("no MARKETS", x.whence(0), 12);
        }
    }

    private static void numbersAsTold() {
        of("numbers as told, the least and the most");
        HungFromIce x = sea("n24;l0,0,1;l6,9,9;t0,0,0,20;t23,1,20,0;t23,0,0,0;t0,1,20,20;g0,0,0;g1,23,9;");
        int[][] levels = {{0, 0, 1}, {6, 9, 9}};
        for (int l = 0; l < 2; l++) for (int i = 0; i < 3; i++) due("level " + l + " " + i, x.level(l, i), levels[l][i]);
        int[][] towns = {{0, 0, 0, 20, 0}, {1, 23, 20, 0, 0}, {0, 23, 0, 0, 0}, {1, 0, 20, 20, 0}};
        for (int t = 0; t < 4; t++) for (int i = 0; i < 5; i++) due("town " + t + " " + i, x.town(t, i), towns[t][i]);
        int[][] things = {{0, 0, 0, NONE}, {1, 23, 9, NONE}};
        for (int g = 0; g < 2; g++) for (int i = 0; i < 4; i++) due("thing " + g + " " + i, x.thing(g, i), things[g][i]);
    }

    private static void firstSea() {
        of("at first l4,1,2;l2,3,1;l3,6,1;t0,1,3,5;t6,2,4,2;g0,3,5;");
        HungFromIce x = new HungFromIce(), y = sea("l4,1,2;l2,3,1;l3,6,1;t0,1,3,5;t6,2,4,2;g0,3,5;");
        for (int i = 0; i < 9; i++) due("count " + i, x.count(i), y.count(i));
        for (int l = 0; l < 3; l++) for (int i = 0; i < 3; i++) due("level " + l + " " + i, x.level(l, i), y.level(l, i));
        for (int t = 0; t < 2; t++) for (int i = 0; i < 5; i++) due("town " + t + " " + i, x.town(t, i), y.town(t, i));
        for (int i = 0; i < 4; i++) due("thing 0 " + i, x.thing(0, i), y.thing(0, i));
        due("THE TEXT is empty", x.count(9), 0);
        due("no FAULT", x.fault(), NONE);
        due("nothing to lay", x.lay(), NO);
    }
}
