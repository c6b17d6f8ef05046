/** Terms and promise 16: walls read from texts, sentence by sentence. */
final class EdgesOfTexts {
    private EdgesOfTexts() {
    }

    private static void due(String call, long got, long want) {
        Check.due(call, got, want);
    }

    /** Two small boxes of three are FULL, GOES 4 7 2, two SORTS of 50 hundredths together, NEAR 4, WAY 6. */
    private static ThreeSizes ahead() {
        ThreeSizes x = new ThreeSizes();
        Scenes.boxes(x, 3, 2, 4);
        Scenes.full(x, 2, 0, 0);
        Scenes.goes(x, 4, 7, 2);
        x.sort(1, 20, 30, 7);
        x.sort(2, 30, 40, 8);
        x.ask(0, 4);
        x.ask(1, 6);
        return x;
    }

    /** The text is read whole: so many STATEMENTS; THE TAPE is empty and nothing is refused. */
    private static ThreeSizes read(String text, int statements) {
        ThreeSizes x = ahead();
        due("wall of '" + text + "'", Check.wall(x, text), statements);
        due("THE TAPE behind '" + text + "'", x.status(7), 0);
        due("refused by '" + text + "'", x.status(12), 0);
        return x;
    }

    /** The text has its FAULT at a place: that is told and counted, and nothing comes of it. */
    private static void fault(String text, int place) {
        ThreeSizes x = ahead();
        due("wall of '" + text + "'", Check.wall(x, text), -20 - place);
        due("BAD by '" + text + "'", x.status(12), 1);
        due("other refusals by '" + text + "'", x.status(13) + x.status(14) + x.status(15) + x.status(16), 0);
        Check.same("all else by '" + text + "'", Check.told(x), Check.told(ahead()));
    }

    private static String blanks(int n) {
        return " ".repeat(n);
    }

    private static void tape() {
        Doc.quote(Doc.TERMS, "A WALL is read from THE TAPE (bytes, 200 at most).");
        due("the last byte counts", read(blanks(194) + "way 89", 1).status(11), 89);
        due("the first byte counts", read("way 89" + blanks(194), 1).status(11), 89);
        fault(blanks(199) + "7", 199);
        fault(blanks(200), 200);
        ThreeSizes x = ahead();
        Check.feed(x, blanks(195) + "way 8");
        due("a 201st byte", x.feed('9', 1), Check.FULL);
        due("is not there", x.wall() * 100 + x.status(11), 108);
    }

    /** Each byte between 'way' and '1' shows what it is. */
    private static void bytes() {
        Doc.quote(Doc.TERMS, "TOKENS, each as long as can be: WORDS (a .. z), NUMBERS (digits), the SIGN ;");
        for (int b = 0; b < 256; b++) {
            String text = "way" + (char) b + "1";
            if (b >= 'a' && b <= 'z') {
                fault(text, 0);
            } else if (b >= '0' && b <= '9') {
                due("WAY by '" + text + "'", read(text, 1).status(11), (b - '0') * 10 + 1);
            } else if (b != ' ') {
                fault(text, 3);
            }
        }
        fault("boxgoes 1 1", 0);
        fault("box 11", 4);
        fault("box 1 11", 6);
        fault("near 5way 5", 6);
        due("a SIGN is one byte", read("near 5;way 5", 2).status(10), 5);
        fault("near 5;;way 5", 7);
    }

    private static void betweenTokens() {
        Doc.quote(Doc.TERMS, "- blanks (32) may stand anywhere between.");
        due("none", read("box1 4;goes2 9;sort0comes9worth8back7;near3;way2", 5).status(2), 4);
        due("many", read("   box   1   4   ;   goes   2   9   ;   near   3   ", 3).status(2), 4);
        fault("bo x 1 4", 0);
        fault("box 1 4 ; wa y 1", 10);
        fault("way 1 2", 6);
        for (int b : new int[] {0, 9, 10, 13, 31, 33, 95, 160, 255}) {
            fault("way 1" + (char) b, 5);
            fault((char) b + "way 1", 0);
        }
    }

    private static void oneOrMore() {
        Doc.quote(Doc.TERMS, "STATEMENTS, one or more, with ; between:");
        fault("", 0);
        fault(" ", 1);
        read("way 1", 1);
        read("way 1;way 2", 2);
        StringBuilder most = new StringBuilder("way1");
        for (int i = 0; i < 39; i++) {
            most.append(";way").append(i % 10);
        }
        due("the last of forty", read(most.toString(), 40).status(11), 8);
        fault(";", 0);
        fault(";way 1", 0);
        fault("way 1;", 6);
        fault("way 1;;way 2", 6);
        fault("way 1 way 2", 6);
    }

    private static void box() {
        Doc.quote(Doc.TERMS, "box S N (BOXES of SIZE S; 0 to 4, no fewer than are FULL),");
        for (int size = 1; size < 3; size++) {
            due("no boxes", read("box " + size + " 0", 1).status(1 + size), 0);
            due("four boxes", read("box " + size + " 4", 1).status(1 + size), 4);
            fault("box " + size + " 5", 6);
        }
        fault("box 3 1", 4);
        due("as many as are FULL", read("box 0 2", 1).status(1), 2);
        fault("box 0 1", 6);
        fault("box 0 4;box 0 1", 14);
        due("the last one counts", read("box 0 4;box 0 2", 2).status(1), 2);
    }

    private static void goes() {
        Doc.quote(Doc.TERMS, "goes S N,");
        for (int size = 0; size < 3; size++) {
            due("never", read("goes " + size + " 0", 1).size(size, 2, 5), 0);
            due("always", read("goes " + size + " 10", 1).size(size, 2, 5), 10);
            fault("goes " + size + " 11", 7);
        }
        fault("goes 3 1", 5);
    }

    private static void sortIs(ThreeSizes x, int sort, int size, int comes, int worth, int back) {
        due("SORTS", x.status(0), sort + 1);
        due("SIZE", x.sortOf(sort, 0), size);
        due("COMES", x.sortOf(sort, 1), comes);
        due("WORTH", x.sortOf(sort, 2), worth);
        due("BACK", x.sortOf(sort, 3), back);
    }

    private static void sort() {
        Doc.quote(Doc.TERMS, "sort S comes N, perhaps worth N, then perhaps back N (10, 5 if not told),");
        sortIs(read("sort 0 comes 0", 1), 2, 0, 0, 10, 5);
        sortIs(read("sort 2 comes 50 worth 1", 1), 2, 2, 50, 1, 5);
        sortIs(read("sort 2 comes 50 worth 99", 1), 2, 2, 50, 99, 5);
        sortIs(read("sort 1 comes 1 back 0", 1), 2, 1, 1, 10, 0);
        sortIs(read("sort 1 comes 1 back 99", 1), 2, 1, 1, 10, 99);
        sortIs(read("sort 1 comes 1 worth 8 back 9", 1), 2, 1, 1, 8, 9);
        fault("sort 3 comes 1", 5);
        fault("sort 0 comes 1 worth 0", 21);
        fault("sort 0 comes 1 worth 100", 21);
        fault("sort 0 comes 1 back 100", 20);
        fault("sort 0 comes 1 back 9 worth 8", 22);
        fault("sort 0 comes 1 worth 8 worth 8", 23);
        fault("sort 0 comes 1 back 9 back 9", 22);
        fault("sort 0 worth 8", 7);
        fault("sort comes 1", 5);
    }

    private static void nearAndWay() {
        Doc.quote(Doc.TERMS, "near N,");
        for (int v : new int[] {0, 10}) {
            due("NEAR", read("near " + v, 1).status(10), v);
        }
        fault("near 11", 5);
        Doc.quote(Doc.TERMS, "way N.");
        for (int v : new int[] {0, 99}) {
            due("WAY", read("way " + v, 1).status(11), v);
        }
        fault("way 100", 4);
    }

    private static void allOrNothing() {
        Doc.quote(Doc.TERMS, "All comes to what there is, or nothing.");
        ThreeSizes x = read("sort 0 comes 50;box 1 0", 2);
        sortIs(x, 2, 0, 50, 10, 5);
        due("SORTS ahead are still there", x.sortOf(0, 1) * 100 + x.sortOf(1, 1), 2030);
        due("what isn't told stays", x.status(3) * 100 + x.status(10) * 10 + x.status(11), 446);
        fault("box 0 4;goes 0 0;sort 0 comes 1;near 0;way 0;x", 45);
        fault("box 0 4;goes 0 0;sort 0 comes 1;near 0;way 0;", 45);
    }

    private static void firstToken() {
        Doc.quote(Doc.TERMS, "The FAULT: the place of the first byte of the first TOKEN that can't stand there");
        fault("x", 0);
        fault("  x", 2);
        fault("boxes 1 1", 0);
        fault("bo 1 1", 0);
        fault("7", 0);
        fault("comes 1", 0);
        fault("box box 1", 4);
        fault("box 1 box", 6);
        fault("box 1 1 1", 8);
        fault("sort 0 near 1", 7);
        fault("sort 0 comes comes", 13);
        fault("way 1 x !", 6);
        fault("way 100 x", 4);
    }

    /** Each TOKEN of a STATEMENT in turn is another one that can't stand there. */
    private static void wrongTokens(String statement, String... wrong) {
        String[] tokens = statement.split(" ");
        int place = 0;
        for (int i = 0; i < tokens.length; i++) {
            boolean isNumber = Character.isDigit(tokens[i].charAt(0));
            String behind = statement.substring(place + tokens[i].length());
            for (String w : wrong) {
                fault(statement.substring(0, place) + w + behind, place);
            }
            fault(statement.substring(0, place) + (isNumber ? "box" : "1") + behind, place);
            if (isNumber) {
                fault(statement.substring(0, place) + "0001" + behind, place);
            } else {
                // the same word but for its first sign, its last one, one more, one fewer
                fault(statement.substring(0, place) + "q" + tokens[i].substring(1) + behind, place);
                fault(statement.substring(0, place) + tokens[i].substring(0, tokens[i].length() - 1) + "q" + behind, place);
                fault(statement.substring(0, place) + tokens[i] + "q" + behind, place);
                fault(statement.substring(0, place) + tokens[i].substring(0, tokens[i].length() - 1) + behind, place);
            }
            place += tokens[i].length() + 1;
        }
    }

    private static void eachToken() {
        Doc.quote(Doc.TERMS, "The FAULT: the place of the first byte of the first TOKEN that can't stand there");
        for (String statement : new String[] {"box 1 1", "goes 1 1", "near 1", "way 1", "sort 1 comes 1"}) {
            wrongTokens(statement, "x", ";", "!");
        }
        // where a STATEMENT may end a ; could stand
        wrongTokens("sort 1 comes 1 worth 1 back 1", "x", "!");
        fault("sort 1 comes 1 worth ; back 1", 21);
        fault("sort 1 comes 1 ; 1 back 1", 17);
        fault("sort 1 5", 7);
        fault("sort 1 comes 1 5", 15);
        fault("sort 1 comes 1 worth 1 5", 23);
    }

    private static void numbers() {
        Doc.quote(Doc.TERMS, "(also a NUMBER that may not be, or has more than 3 digits;");
        due("three digits", read("way 009", 1).status(11), 9);
        fault("way 0009", 4);
        due("three digits", read("box 002 004", 1).status(3), 4);
        fault("box 0002 4", 4);
        fault("box 2 0004", 6);
        fault("way 999", 4);
        fault("way 4294967297", 4);
        fault("way 18446744073709551617", 4);
        fault("way " + "0".repeat(196), 4);
    }

    private static void noRoom() {
        Doc.quote(Doc.TERMS, "what there is no room for: its word;");
        String four = "sort 0 comes 0;sort 0 comes 0;sort 0 comes 0;sort 0 comes 0";
        due("up to six", read(four, 4).status(0), 6);
        fault(four + ";sort 0 comes 0", 60);
        fault(four + ";sort 9 x", 60);
        fault(four + ";way 1; sort", 67);
        due("the rest has room", read(four + ";way 1", 5).status(11), 1);
    }

    private static void past100() {
        Doc.quote(Doc.TERMS, "COMES that would pass 100 together;");
        sortIs(read("sort 0 comes 50", 1), 2, 0, 50, 10, 5);
        fault("sort 0 comes 51", 13);
        sortIs(read("sort 0 comes 20;sort 0 comes 30", 2), 3, 0, 30, 10, 5);
        fault("sort 0 comes 20;sort 0 comes 31", 29);
        sortIs(read("sort 0 comes 50;sort 0 comes 0", 2), 3, 0, 0, 10, 5);
        fault("sort 0 comes 50;sort 0 comes 1", 29);
        ThreeSizes x = new ThreeSizes();
        due("100 of one SORT", Check.wall(x, "sort 0 comes 100"), 1);
        ThreeSizes y = new ThreeSizes();
        due("101 of one SORT", Check.wall(y, "sort 0 comes 101"), -33);
    }

    private static void strangeByte() {
        Doc.quote(Doc.TERMS, "a byte that begins none);");
        fault("!", 0);
        fault("way !", 4);
        fault("way 1!", 5);
        fault("way 1 !", 6);
        fault("way 1;!", 6);
        fault("wayW 1", 3);
        fault("way 1W", 5);
        fault("sort 0 comes 1 Worth 1", 15);
        fault("way -1", 4);
    }

    private static void endsTooEarly() {
        Doc.quote(Doc.TERMS, "THE TAPE's size, if it ends too early.");
        String whole = "sort 0 comes 1 worth 8 back 9;box 1 1;goes 1 1;near 1;way 1";
        read(whole, 5);
        // where a STATEMENT may end; inside a NUMBER or a word other rules tell
        int[] ends = {0, 4, 5, 6, 7, 12, 13, 20, 21, 27, 28, 30, 33, 34, 35, 36, 38, 42, 43, 44, 45, 47, 51, 52, 54, 57, 58};
        for (int end : ends) {
            fault(whole.substring(0, end), end);
            fault(whole.substring(0, end) + "  ", end + 2);
        }
        for (int end : new int[] {14, 15, 22, 23, 29, 37, 46, 53, 59}) {
            taken(whole.substring(0, end));
        }
    }

    private static void taken(String text) {
        ThreeSizes x = ahead();
        Check.isTrue("'" + text + "' is whole", Check.wall(x, text) > 0);
    }

    private static void promise16() {
        Doc.quote(16, "THE TAPE is a WALL: how many STATEMENTS; -20 less the FAULT (that is refused, too: BAD).");
        due("one", new ThreeSizes().wall(), -20);
        read("near 1", 1);
        read("near 1;way 1;box 0 3", 3);
        fault("near 1;way 1;box 0 9", 19);
        fault(blanks(200), 200);
        Doc.quote(16, "THE TAPE is empty then, either way.");
        ThreeSizes x = new ThreeSizes();
        Check.feed(x, "way 1");
        due("read", x.wall() * 10 + x.status(7), 10);
        due("nothing is left to be read", x.wall(), -20);
        Check.feed(x, "way x");
        due("at fault", x.wall(), -24);
        due("empty", x.status(7) + x.wipe(), 0);
        Check.feed(x, "near 9");
        due("it begins anew", x.wall() * 100 + x.status(10) * 10 + x.status(11), 191);
    }

    static void run() {
        tape();
        bytes();
        betweenTokens();
        oneOrMore();
        box();
        goes();
        sort();
        nearAndWay();
        allOrNothing();
        firstToken();
        eachToken();
        numbers();
        noRoom();
        past100();
        strangeByte();
        endsTooEarly();
        promise16();
    }
}
