/** Promises 33 to 35, and of the Terms what a TEXT is: feed, wipe, text. */
final class TextsEdges {
    private final Edges edges;

    TextsEdges(Edges edges) {
        this.edges = edges;
    }

    void all() {
        fullTape();
        longTokens();
        words();
        numbers();
        blanks();
        itemsAndSigns();
        newRooms();
        parts();
        outAndDamper();
        numbersNotAsTold();
        anotherWord();
        noToken();
        ninthRoom();
        tooEarly();
        feed();
        feedRefused();
        wipe();
        text();
        textWithFault();
    }

    private void fault(String text, int place) {
        edges.house().fault(text, place);
    }

    private void items(String text, int items) {
        edges.house().items(text, items);
    }

    private void fullTape() {
        edges.terms("A TEXT is read from THE TAPE (bytes, at most 120).");
        String most = "out0;".repeat(23) + "out01";
        edges.house().feeds(most).due("count 5", 120).refused("feed 32 1", Check.FULL).due("text", 24).due("now 4", 1)
            .due("count 5", 0).due("feed 32 1", 1);
        edges.house().feeds("out0;".repeat(24)).due("count 5", 120).due("text", -121).due("count 5", 0).due("now 4", 20);
        items(" ".repeat(116) + "even", 1);
        fault(" ".repeat(119) + "#", 119);
        fault(" ".repeat(120), 120);
        fault("a".repeat(120), 0);
        fault("even warm " + "1".repeat(110), 10);
        items("even warm " + "0".repeat(109) + "7", 1);
    }

    private void longTokens() {
        edges.terms("TOKENS, each as long as can be:");
        fault("evenjust", 0);
        fault("even away3", 9);
        fault("outout 3", 0);
        fault("even warm 30 0", 13);
        fault("even warm3000", 9);
        items("even warm30coal4wall5heats6away;out7;damper0 3", 3);
        fault("even;damper01", 11);
        fault("even;damper 10", 12);
    }

    private void words() {
        edges.terms("WORDS (letters a to z)");
        // a and z go on with a WORD, the bytes beside them don't, nor do great letters and digits.
        fault("evena", 0);
        fault("evenz", 0);
        fault("even`", 4);
        fault("even{", 4);
        fault("evenA", 4);
        fault("evenZ", 4);
        fault("even1", 4);
        fault("even_", 4);
        fault("Even", 0);
        fault("EVEN", 0);
        fault("a", 0);
        fault("z", 0);
    }

    private void numbers() {
        edges.terms("NUMBERS (digits, 9999 at most)");
        fault("even coal 9999", 10);
        fault("even coal 10000", 10);
        fault("even coal 4294967297", 10);
        fault("even coal 18446744073709551617", 10);
        fault("even coal -1", 10);
        fault("even coal +1", 10);
        fault("even coal 1/", 11);
        fault("even coal 1:", 11);
        fault("even coal 1.5", 11);
        fault("even coal 0x5", 11);
        edges.house().items("even coal 0", 1).due("of 0 2", 0).items("just coal 987;just coal 19;just coal 00060", 3)
            .due("of 1 2", 987).due("of 2 2", 19).due("of 3 2", 60);
    }

    private void blanks() {
        edges.terms("SIGN ; ; blanks may stand between.");
        items("   even   warm   3   ;   out   5   ", 2);
        items("even;out5", 2);
        items(" even", 1);
        items("even ", 1);
        fault("even\tjust", 4);
        fault("even\n", 4);
        fault("\reven", 0);
        fault("ev en", 0);
        fault("even warm 1 0", 12);
    }

    private void itemsAndSigns() {
        edges.terms("TEXT: ITEM { ; ITEM }.");
        fault("", 0);
        fault(";", 0);
        fault(" ;", 1);
        fault(";even", 0);
        fault("even;", 5);
        fault("even;;even", 5);
        fault("even ; ; even", 7);
        fault("even out 3", 5);
        fault("out 3 out 3", 6);
        items("even", 1);
        items("even;even", 2);
        items("even;even;even;even;even;even;even;even", 8);
        items("out 0;even;damper 0 0;out 100;even;damper 1 3", 6);
    }

    private void newRooms() {
        edges.terms("ITEM: even, kindly, just, miser, saintly, slow or spiteful");
        String[] words = {"even", "kindly", "just", "miser", "saintly", "slow", "spiteful"};
        for (int kind = 0; kind < 7; kind++) {
            edges.house(2).items(words[kind], 1).due("count 1", 2).due("of 1 0", kind).due("of 1 1", 100).due("of 1 2", 50)
                .due("of 1 3", 10).due("of 1 4", 2).due("of 1 5", 0).due("of 1 6", 0).due("of 1 7", 1).due("of 1 8", 1);
            fault(words[kind].substring(1), 0);
            fault(words[kind] + "x", 0);
            fault("x" + words[kind].substring(1), 0);
            fault(words[kind].substring(0, words[kind].length() - 1), 0);
            fault(words[kind].substring(0, words[kind].length() - 1) + "x", 0);
            fault(words[kind] + " " + words[kind], words[kind].length() + 1);
        }
    }

    private void parts() {
        edges.terms("perhaps warm and a NUMBER (0 to 300), perhaps coal and a NUMBER (0 to 999), perhaps wall and a NUMBER (1 to 20)"
            + ", perhaps heats and a NUMBER (0 to 7, not its own), perhaps away: a new ROOM");
        String[] words = {"warm", "coal", "wall", "heats"};
        int[] least = {0, 0, 1, 0};
        int[] most = {300, 999, 20, 7};
        for (int i = 0; i < 4; i++) {
            // As ROOM 1, so that heats may be 0 and 7.
            String head = "even " + words[i] + " ";
            Story s = edges.house(0).items(head + least[i], 1).due("of 1 " + (i + 1), least[i]);
            s.items(head + most[i], 1).due("of 2 " + (i + 1), most[i]);
            edges.house(0).fault(head + (most[i] + 1), head.length()).fault(head, head.length()).fault(head + "away",
                head.length()).fault(head + "1000", head.length());
        }
        edges.house(0).fault("even wall 0", 10).fault("even heats 1", 11).items("even heats 2", 1).fault("even heats 2", 11);
        edges.house(0, 0, 0, 0, 0, 0, 0).fault("even heats 7", 11).items("even heats 6", 1).due("of 7 4", 6);
        fault("even heats 0", 11);
        items("even heats 1;even heats 0", 2);
        fault("even heats 1;even heats 1", 24);
        edges.house().items("even away", 1).due("of 0 5", 1).items("even warm 1 away", 1).due("of 1 5", 1)
            .items("even heats 7 away;even", 2).due("of 2 5", 1).due("of 3 5", 0);
        partsInOrder();
    }

    private void partsInOrder() {
        String[] parts = {"warm 1", "coal 1", "wall 1", "heats 1", "away"};
        for (int i = 0; i < 5; i++) {
            for (int j = 0; j < 5; j++) {
                String text = "even " + parts[i] + " " + parts[j];
                if (i < j) {
                    edges.house(0, 0).items(text, 1);
                } else {
                    edges.house(0, 0).fault(text, 6 + parts[i].length());
                }
            }
        }
    }

    private void outAndDamper() {
        edges.terms("out and a NUMBER (0 to 100); damper, a NUMBER (a ROOM there by then), a NUMBER (0 to 3).");
        edges.house().items("out 0", 1).due("now 4", 0).items("out 100", 1).due("now 4", 100).fault("out 101", 4)
            .fault("out", 3).fault("out ;", 4).fault("out out", 4);
        edges.house(0).items("damper 0 0", 1).due("of 0 6", 0).items("damper 0 3", 1).due("of 0 6", 3).fault("damper 0 4", 9)
            .fault("damper 1 0", 7).fault("damper 0", 8).fault("damper", 6).fault("damper 0 0 0", 11);
        // There by then: not by an ITEM behind it.
        fault("damper 0 1", 7);
        fault("damper 0 1;even", 7);
        items("even;damper 0 1", 2);
        fault("even;damper 1 1;even", 12);
        edges.house(0, 0, 0, 0, 0, 0, 0, 0).items("damper 7 3", 1).due("of 7 6", 3).fault("damper 8 3", 7);
        edges.house(0, 0, 0, 0, 0, 0, 0).fault("damper 7 3", 7).items("even;damper 7 3", 2).due("of 7 6", 3);
    }

    private void numbersNotAsTold() {
        edges.terms("(a NUMBER that isn't as told,");
        fault("even warm 301", 10);
        fault("even warm 3;even coal 1000", 22);
        fault("even warm 3 wall 21", 17);
        fault("even;damper 0 4", 14);
        fault("out 5;out 101", 10);
        // Where there should be none at all.
        fault("5", 0);
        fault("even 5", 5);
        fault("even away 5", 10);
        fault("even;5", 5);
    }

    private void anotherWord() {
        edges.terms("another WORD,");
        fault("warm", 0);
        fault("away", 0);
        fault("stove", 0);
        fault("even cold", 5);
        fault("even warm warm", 10);
        fault("even;warm 3", 5);
        fault("out just", 4);
        fault("damper even", 7);
        String[] words = {"warm", "coal", "wall", "heats", "away"};
        for (String word : words) {
            fault("even x" + word.substring(1), 5);
            fault("even " + word.substring(0, word.length() - 1), 5);
            fault("even " + word.substring(0, word.length() - 1) + "x", 5);
        }
        fault("xut 3", 0);
        fault("oux 3", 0);
        fault("even;xamper 0 1", 5);
        fault("even;dampex 0 1", 5);
        fault("out 3 away", 6);
    }

    private void noToken() {
        edges.terms("a byte that begins no TOKEN,");
        char[] bytes = {0, 1, 31, 33, 47, 58, 60, 64, 91, 96, 123, 127, 128, 160, 255};
        for (char b : bytes) {
            fault(String.valueOf(b), 0);
            fault("even" + b, 4);
            fault("even warm " + b + "3", 10);
        }
    }

    private void ninthRoom() {
        edges.terms("the WORD of a 9th ROOM: its own)");
        edges.house(0, 0, 0, 0, 0, 0, 0, 0).fault("even", 0).fault("out 3;  just warm 999", 8).fault("evens", 0)
            .items("out 3", 1);
        edges.house(0, 0, 0, 0, 0, 0, 0).fault("even;slow", 5).fault("even;even;;", 5).fault("even;slow heats 8", 5)
            .items("even", 1);
        fault("slow;".repeat(8) + "slow", 40);
    }

    private void tooEarly() {
        edges.terms("or how many bytes there are if it ends too early.");
        fault("", 0);
        fault(" ", 1);
        fault("even;", 5);
        fault("even;  ", 7);
        fault("even warm", 9);
        fault("even warm  ", 11);
        fault("even;damper 0", 13);
        fault("out", 3);
    }

    private void feed() {
        edges.promise(33, "THE TAPE gets the n lowest bytes of a number behind it, the highest of these first (n 1 to 4): how many "
            + "it has.");
        edges.house().due("feed " + 0x6576656e + " 4", 4).due("text", 1).due("feed " + 0x776576 + " 2", 2)
            .due("feed " + 0x65656e + " 2", 4).due("text", 1).due("feed " + 0x77657665 + " 3", 3)
            .due("feed " + 0x6576656e + " 1", 4).due("text", 1).due("count 1", 3);
        // A byte above 127 is one byte, whatever the sign of the number.
        edges.house().due("feed -1 4", 4).due("feed -2147483648 1", 5).due("count 5", 5).due("text", -1);
        edges.house().due("feed " + (0xff000000 | 0x6f7574) + " 3", 3).due("feed 32 1", 4).due("feed 53 1", 5).due("text", 1)
            .due("now 4", 5);
        Story full = edges.house();
        for (int i = 1; i <= 30; i++) {
            full.due("feed 0 4", 4 * i);
        }
    }

    private void feedRefused() {
        edges.promise(33, "BEYOND: n.");
        edges.house().beyond("feed 32 #", 1, 4).due("count 5", 0);
        edges.house().feeds("a".repeat(120)).beyond("feed 32 #", 1, 4).due("count 5", 120);
        edges.promise(33, "FULL.");
        for (int n = 1; n <= 4; n++) {
            // One byte more than there is place for, then just so many.
            edges.house().feeds(" ".repeat(121 - n)).refused("feed 32 " + n, Check.FULL).due("wipe", 121 - n);
            edges.house().feeds(" ".repeat(120 - n)).due("feed 32 " + n, 120).refused("feed 32 " + n, Check.FULL);
        }
    }

    private void wipe() {
        edges.promise(34, "THE TAPE is empty: how many it had.");
        edges.house().due("wipe", 0).due("wipe", 0).feeds("e").due("wipe", 1).due("wipe", 0).due("count 5", 0)
            .feeds(" ".repeat(120)).due("wipe", 120).due("count 5", 0).feeds("even").due("text", 1);
    }

    private void text() {
        edges.promise(35, "THE TAPE is a TEXT, and empty then; all that it tells is so, item by item: how many ITEMS.");
        edges.house(Check.JUST).items("miser warm 0 coal 999 wall 1 heats 0 away", 1).due("of 1 0", 3).due("of 1 1", 0)
            .due("of 1 2", 999).due("of 1 3", 1).due("of 1 4", 0).due("of 1 5", 1).due("of 0 0", 2).due("of 0 5", 0);
        edges.house().items("out 1;out 2;out 3", 3).due("now 4", 3).items("even;damper 0 3;damper 0 1;even", 4).due("of 0 6", 1)
            .due("of 1 6", 0).due("text", -1).due("now 4", 3).due("count 1", 2);
        // Neither HOUR, z, SPOTS, SHEETS nor what is kept.
        edges.house(0).does("hours 1", "seed 7", "hold 2 0", "sheet 1 32 1", "write 1 0 8", "image").items("even;out 3", 2)
            .due("count 0", 1).due("count 6", 7).due("as 2 0", 0).due("load 1", 1).due("of 0 2", 8).due("undo", 1)
            .due("count 1", 1).due("now 4", 20);
    }

    private void textWithFault() {
        edges.promise(35, "With a FAULT: -1 less the FAULT (nothing changes but that THE TAPE is empty; no finding).");
        Story s = edges.house(Check.JUST).does("hours 1", "hold 2 0", "image", "hours 2");
        s.fault("slow;out 5;damper 0 3;damper 1 2;even heats 2", 44).due("count 1", 1).due("now 4", 20).due("of 0 6", 0);
        s.due("count 5", 0).due("status -1", 0).items("slow;damper 1 1", 2).due("of 1 6", 1).due("of 1 4", 2);
        fault("x", 0);
        fault("out 5;" + " ".repeat(114), 120);
    }
}
