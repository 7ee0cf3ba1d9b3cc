/** Promises 1 to 6: the input buffer, the setup text and its errors. */
public final class SetupTest {
    private static final Check check = new Check();

    public static void main(String[] args) {
        promise01NewObject();
        promise02AppendInput();
        promise03TruncateInput();
        promise04LoadDisk();
        promise04ReplacesEverything();
        promise04ErrorChangesNothing();
        promise05ErrorCode();
        promise06ErrorOffset();
        settingsOfTheText();
        partitionsOfTheText();
        locksOfTheText();
        tokensOfTheText();
        endsOfTheText();
        check.end();
    }

    private static void promise01NewObject() {
        check.at("promise 1");
        PartitionBench b = new PartitionBench();
        int[] counts = {64, 0, 0, 1, 4, 0, 64, 1, 0, 0, 0, 0};
        for (int what = 0; what < counts.length; what++) {
            check.due("count(" + what + ")", b.count(what), counts[what]);
        }
        check.due("as if loaded", Texts.state(b), Texts.state(Texts.bench("disk 64;")));
        check.due("errorCode()", b.errorCode(), PartitionBench.NO_ERROR);
        check.due("errorOffset()", b.errorOffset(), -1);
        check.due("truncateInput(1)", b.truncateInput(1), false);
        check.due("truncateInput(0)", b.truncateInput(0), true);
        check.due("outputByte(0)", b.outputByte(0), -1);
        check.due("undo()", b.undo(), -1);
        check.throwsDue("restoreState()", IllegalStateException.class, b::restoreState);
        check.due("move(0)", b.move(0), -1);
        check.due("the empty text", b.loadDisk(), -1);
    }

    private static void promise02AppendInput() {
        check.at("promise 2");
        PartitionBench b = new PartitionBench();
        for (int i = 1; i <= 25; i++) {
            check.due("appendInput", b.appendInput(0, 0, 0, 0, 0), 20 * i);
        }
        check.due("appendInput at 500", b.appendInput(0, 0, 0, 0, 0), -1);
        check.due("truncateInput(500)", b.truncateInput(500), true);
        check.due("truncateInput(481)", b.truncateInput(481), true);
        check.due("appendInput at 481", b.appendInput(0, 0, 0, 0, 0), -1);
        check.due("the length is as before", b.truncateInput(482), false);
        check.due("truncateInput(480)", b.truncateInput(480), true);
        check.due("appendInput at 480", b.appendInput(0, 0, 0, 0, 0), 500);
        b.truncateInput(0);
        // "disk", " 123", ";hea", "d 7;", "    "
        check.due("appendInput of a text", b.appendInput(0x6469736b, 0x20313233, 0x3b686561, 0x6420373b, 0x20202020), 20);
        check.due("loadDisk()", b.loadDisk(), 0);
        check.due("count(0)", b.count(0), 123);
        check.due("count(1)", b.count(1), 7);
        fullBuffer(b);
    }

    private static void fullBuffer(PartitionBench b) {
        String text = "disk 64;" + " ".repeat(480) + "\n head 3;   ";
        check.due("length of the text", text.length(), 500);
        check.due("a text of 500 bytes", Texts.load(b, text), 0);
        check.due("its head", b.count(1), 3);
        Texts.append(b, text);
        check.due("appendInput refused", b.appendInput(0, 0, 0, 0, 0), -1);
        check.due("the text is as before", b.loadDisk() + " " + b.count(1), "0 3");
        check.due("the last byte counts", Texts.load(b, "disk 64;" + " ".repeat(491) + ";"), -1);
        check.due("its offset", b.errorOffset(), 499);
        check.due("no byte behind the last one", Texts.load(b, " ".repeat(496) + "disk"), -1);
        check.due("the end of a full buffer", b.errorOffset(), 500);
        check.due("all of the buffer is free again", b.appendInput(0, 0, 0, 0, 0), 20);
        check.due("bytes of 0 are none of a text", b.loadDisk() + " " + b.errorOffset(), "-1 0");
        b.appendInput(0x6469736b, 0x203634bb, 0x20202020, 0x20202020, 0x20202020);
        check.due("a semicolon and 128", b.loadDisk() + " " + b.errorOffset(), "-1 7");
        b.appendInput(-1, -1, -1, -1, -1);
        check.due("negative parameters", b.loadDisk() + " " + b.errorOffset(), "-1 0");
    }

    private static void promise03TruncateInput() {
        check.at("promise 3");
        PartitionBench b = new PartitionBench();
        Texts.append(b, "disk 99;head 5;");
        check.due("truncateInput(-1)", b.truncateInput(-1), false);
        check.due("truncateInput(least)", b.truncateInput(Integer.MIN_VALUE), false);
        check.due("truncateInput(16)", b.truncateInput(16), false);
        check.due("truncateInput(greatest)", b.truncateInput(Integer.MAX_VALUE), false);
        check.due("truncateInput(15)", b.truncateInput(15), true);
        check.due("truncateInput(8)", b.truncateInput(8), true);
        check.due("truncateInput(9)", b.truncateInput(9), false);
        check.due("loadDisk()", b.loadDisk(), 0);
        check.due("count(0)", b.count(0), 99);
        check.due("count(1)", b.count(1), 0);
        Texts.append(b, "disk 99;head 5;");
        b.truncateInput(0);
        Texts.append(b, "disk 98;");
        check.due("behind truncateInput(0)", b.loadDisk(), 0);
        check.due("count(0)", b.count(0), 98);
    }

    private static void promise04LoadDisk() {
        check.at("promise 4");
        PartitionBench b = new PartitionBench();
        check.due("loadDisk()", Texts.load(b, "disk 100;chunk 3;part 0 4 1 2;part 10 6 2 3;lock 1;"), 2);
        check.due("the buffer is empty", b.truncateInput(1), false);
        check.due("print", Texts.print(b), "0[0,4] 1[10,6]*");
        check.due("sector(0)", b.sector(0), 1000);
        check.due("sector(15)", b.sector(15), 2005);
        check.due("sector(16)", b.sector(16), 0);

        b.begin(0, 50);
        b.tear();
        b.saveState();
        b.printDisk();
        String before = Texts.state(b);
        check.due("a wrong text", Texts.load(b, "disk 200;part 0 4 1 2;part 2 4 1 1;"), -1);
        check.due("the buffer is empty behind an error", b.truncateInput(1), false);
        check.due("an error changes nothing", Texts.state(b), before);
        check.due("an error leaves the output", b.outputByte(0), (int) '0');
        check.due("an error leaves the saved state", b.restoreState(), 2);
    }

    private static void promise04ReplacesEverything() {
        check.at("promise 4, a load replaces everything");
        PartitionBench b = Texts.bench("disk 100;head 1;tail 2;align 4;chunk 3;part 4 4 1 2;lock 0;");
        b.lock(0, false);
        b.begin(0, 8);
        b.run(1);
        b.tear();
        b.saveState();
        b.printDisk();
        check.due("loadDisk()", Texts.load(b, "disk 70;"), 0);
        check.due("as a new one", Texts.state(b), Texts.state(Texts.bench("disk 70;")));
        check.due("undo()", b.undo(), -1);
        check.due("the output", b.outputByte(0), -1);
        check.throwsDue("restoreState()", IllegalStateException.class, b::restoreState);
        check.due("add", b.add(0, 3, 0, 1), 0);
        check.due("the serials begin anew", b.sector(2), 1002);

        b.begin(0, 9);
        b.tear();
        b.run(9);
        b.compactSteps();
        Texts.load(b, "disk 80;");
        check.due("nothing is counted", Texts.state(b), Texts.state(Texts.bench("disk 80;")));
        Texts.load(b, "disk 64;head 0;tail 2;align 2;chunk 3;part 0 4 0 1;lock 0;");
        check.due("settings told once a text", Texts.load(b, "disk 64;head 0;tail 2;align 2;chunk 3;part 2 4 0 1;"), 1);
        check.due("not locked", b.part(0, 4), 0);
        check.due("sector(0)", b.sector(0), 0);
        Texts.load(b, "disk 64;");
        check.due("settings are those of no statement", Texts.state(b), Texts.state(new PartitionBench()));
    }

    /** Each error of the text on a bench with all that a load replaces. */
    private static void promise04ErrorChangesNothing() {
        check.at("promise 4, an error changes nothing");
        PartitionBench b = Texts.bench("disk 100;align 2;part 10 8 1 2;part 30 4 1 2;");
        b.begin(0, 8);
        b.saveState();
        b.run(1);
        b.tear();
        b.printDisk();
        String before = Texts.state(b);
        String[] wrong = {"", "disk 64", "disk 601;", "disk 64;head 1;head 1;", "disk 64;part 0 4 0 1;part 2 4 0 1;",
            "disk 64;part 0 1 0 1;part 1 1 0 1;part 2 1 0 1;part 3 1 0 1;part 4 1 0 1;part 5 1 0 1;part 6 1 0 1;"
            + "part 7 1 0 1;part 8 1 0 1;", "disk 64;part 0 4 0 1;lock 0;lock 0;", "disk 64;chunk 3;tail 2;align 5;x;"};
        for (String text : wrong) {
            check.due("\"" + text + "\"", Texts.load(b, text), -1);
            check.due("\"" + text + "\" the state", Texts.state(b), before);
            check.due("\"" + text + "\" the output", b.outputByte(7), (int) '>');
            check.due("\"" + text + "\" the buffer is empty", b.truncateInput(1), false);
        }
        check.due("the changes can be undone", b.undo() + " " + b.undo() + " " + b.undo() + " " + b.undo(), "2 1 0 -1");
        check.due("the saved state", b.restoreState() + " " + b.count(8), "2 0");
    }

    private static void promise05ErrorCode() {
        check.at("promise 5");
        PartitionBench b = new PartitionBench();
        check.due("no call", b.errorCode(), 0);
        Texts.load(b, "disk 63;");
        check.due("the latest call failed", b.errorCode(), PartitionBench.OUT_OF_RANGE);
        Texts.append(b, "disk");
        check.due("still the latest", b.errorCode(), 2);
        b.loadDisk();
        check.due("the next one failed", b.errorCode(), PartitionBench.SYNTAX);
        b.lock(Texts.load(b, "disk 64;part 0 4 0 1;") - 1, true);
        check.due("the latest call succeeded", b.errorCode(), 0);
        Texts.load(b, "disk 64;chunk 4;chunk 4;");
        check.due("TWICE", b.errorCode(), PartitionBench.TWICE);
        b.undo();
        check.due("undo leaves it", b.errorCode(), PartitionBench.TWICE);
        Texts.load(b, "disk 64;part 0 4 0 1;part 0 4 0 1;");
        check.due("TAKEN", b.errorCode(), PartitionBench.TAKEN);
        check.due("the constants", "" + PartitionBench.NO_ERROR + PartitionBench.SYNTAX + PartitionBench.OUT_OF_RANGE
            + PartitionBench.TWICE + PartitionBench.TAKEN + PartitionBench.TOO_MANY, "012345");
    }

    private static void promise06ErrorOffset() {
        check.at("promise 6");
        PartitionBench b = new PartitionBench();
        check.due("no call", b.errorOffset(), -1);
        Texts.load(b, "disk 63;");
        check.due("behind an error", b.errorOffset(), 5);
        Texts.load(b, "disk 65;");
        check.due("behind a success", b.errorOffset(), -1);
        Texts.load(b, "");
        check.due("the empty text", b.errorOffset(), 0);
        Texts.load(b, "  \n ");
        check.due("the blank text", b.errorOffset(), 4);
    }

    /** The text must give the error at the offset; code 0 and offset -1: none. */
    private static void error(String text, int code, int offset) {
        PartitionBench b = new PartitionBench();
        int answer = Texts.load(b, text);
        check.due("\"" + text + "\" is right", answer >= 0, code == 0);
        check.due("\"" + text + "\" code", b.errorCode(), code);
        check.due("\"" + text + "\" offset", b.errorOffset(), offset);
    }

    private static void settingsOfTheText() {
        check.at("settings");
        error("disk 64;", 0, -1);
        error("disk 600;", 0, -1);
        error("disk 63;", 2, 5);
        error("disk 601;", 2, 5);
        error("disk 999", 2, 5);
        error("disk 064;", 0, -1);
        error("disk 0064;", 1, 5);
        error("disk 64", 1, 7);
        error("disk ", 1, 5);
        error("disk;", 1, 4);
        error("disk disk;", 1, 5);
        error("disk 64 64;", 1, 8);
        error("disk 64;disk 64;", 1, 8);
        error("head 3;disk 64;", 1, 0);
        error("64;", 1, 0);
        error(";", 1, 0);
        error("disk 64;;", 1, 8);
        error("disk 64;5;", 1, 8);
        error("disk 64;heads 3;", 1, 8);
        error("disk 64;hea 3;", 1, 8);
        error("disk 64;x;", 1, 8);
        error("disk 64;head 31;tail 31;", 0, -1);
        error("disk 64;head 32;", 2, 13);
        error("disk 64;tail 32;", 2, 13);
        error("disk 64;head 0;tail 0;", 0, -1);
        error("disk 64;align 0;", 2, 14);
        error("disk 64;align 1;", 0, -1);
        error("disk 64;align 32;", 0, -1);
        error("disk 64;align 33;", 2, 14);
        error("disk 64;chunk 0;", 2, 14);
        error("disk 64;chunk 1;", 0, -1);
        error("disk 64;chunk 16;", 0, -1);
        error("disk 64;chunk 17;", 2, 14);
        error("disk 64;chunk;", 1, 13);
        error("disk 64;chunk", 1, 13);
        error("disk 64;chunk 4", 1, 15);
        error("disk 64;chunk 4 head 3;", 1, 16);
        error("disk 64;chunk 4;align 2;tail 3;head 2;", 0, -1);
        error("disk 64;head 1;head 1;", 3, 15);
        error("disk 64;tail 1;tail 1;", 3, 15);
        error("disk 64;align 1; align 1;", 3, 17);
        error("disk 64;chunk 4;chunk x;", 3, 16);
        error("disk 64;head 1;tail 1;align 1;chunk 1;", 0, -1);
        error("disk 64;part 0 4 0 1;head 2;", 1, 21);
        error("disk 64;part 0 4 0 1;tail 2;", 1, 21);
        error("disk 64;part 0 4 0 1;align 2;", 1, 21);
        error("disk 64;part 0 4 0 1;chunk 2;", 0, -1);
        error("disk 64;head 0;part 0 4 0 1;head 0;", 1, 28);
        error("disk 64;chunk 2;part 0 4 0 1;chunk 2;", 3, 29);
        PartitionBench b = Texts.bench("disk 600;head 31;tail 30;align 32;chunk 16;");
        int[] counts = {600, 31, 30, 32, 16};
        for (int what = 0; what < counts.length; what++) {
            check.due("count(" + what + ")", b.count(what), counts[what]);
        }
    }

    private static void partitionsOfTheText() {
        check.at("partitions");
        error("disk 64;part 0 64 9 64;", 0, -1);
        error("disk 64;part 64 1 0 1;", 2, 13);
        error("disk 64;part 63 1 0 1;", 0, -1);
        error("disk 64;part 63 2 0 1;", 2, 16);
        error("disk 64;part 999 1 0 1;", 2, 13);
        error("disk 64;head 4;part 3 2 0 1;", 2, 20);
        error("disk 64;head 4;part 4 60 0 1;", 0, -1);
        error("disk 64;tail 4;part 60 1 0 1;", 2, 20);
        error("disk 64;tail 4;part 59 1 0 1;", 0, -1);
        error("disk 64;tail 4;part 59 2 0 1;", 2, 23);
        error("disk 64;align 8;part 4 2 0 1;", 2, 21);
        error("disk 64;align 8;part 8 2 0 1;", 0, -1);
        error("disk 64;part 0 0 0 1;", 2, 15);
        error("disk 64;part 0 65 0 1;", 2, 15);
        error("disk 64;part 0 4 10 1;", 2, 17);
        error("disk 64;part 0 4 9 1;", 0, -1);
        error("disk 64;part 0 4 0 0;", 2, 19);
        error("disk 64;part 0 4 0 4;", 0, -1);
        error("disk 64;part 0 4 0 5;", 2, 19);
        error("disk 64;part 0 4 0;", 1, 18);
        error("disk 64;part 0 4 0 1 1;", 1, 21);
        error("disk 64;part 0 4 0 1", 1, 20);
        error("disk 64;part 0 1000 0 1;", 1, 15);
        error("disk 64;part part 0 4 0 1;", 1, 13);
        error("disk 64;part 10 4 0 1;part 13 1 0 1;", 4, 30);
        error("disk 64;part 10 4 0 1;part 14 1 0 1;", 0, -1);
        error("disk 64;part 10 4 0 1;part 8 2 0 1;", 0, -1);
        error("disk 64;part 10 4 0 1;part 8 3 0 1;", 4, 29);
        error("disk 64;part 10 4 0 1;part 11 1 0 1;", 4, 30);
        error("disk 64;part 10 4 0 1;part 8 9 0 1;", 4, 29);
        error("disk 64;part 10 4 0 1;part 10 60 0 1;", 2, 30);
        error("disk 64;part 10 4 0 1;part 10 0 0 1;", 2, 30);
        StringBuilder many = new StringBuilder("disk 64;");
        for (int i = 0; i < 8; i++) {
            many.append("part ").append(i).append(" 1 0 1;");
        }
        error(many.toString(), 0, -1);
        error(many + "part 0 1 0 1;", 5, many.length());
        error(many + " part", 5, many.length() + 1);
        error(many + "lock 7;", 0, -1);
        error(many + "lock 8;", 2, many.length() + 5);
        error(many + "chunk 2;", 0, -1);
        error(many + "head 1;", 1, many.length());
        error(many + "part;", 5, many.length());
        PartitionBench b = Texts.bench("disk 64;part 40 4 7 2;part 8 5 3 5;");
        check.due("the order of the text numbers them", Texts.print(b), "1[8,5] 0[40,4]");
        int[][] properties = {{40, 4, 2, 7, 0, 0, 0}, {8, 5, 5, 3, 0, 1, 0}};
        for (int part = 0; part < 2; part++) {
            for (int what = 0; what < 7; what++) {
                check.due("part(" + part + ", " + what + ")", b.part(part, what), properties[part][what]);
            }
        }
    }

    private static void locksOfTheText() {
        check.at("locks");
        error("disk 64;lock 0;", 2, 13);
        error("disk 64;part 0 4 0 1;lock 1;", 2, 26);
        error("disk 64;part 0 4 0 1;lock 999;", 2, 26);
        error("disk 64;part 0 4 0 1;lock 9999;", 1, 26);
        error("disk 64;part 0 4 0 1;lock;", 1, 25);
        error("disk 64;part 0 4 0 1;lock 0", 1, 27);
        error("disk 64;part 0 4 0 1;lock 0;lock 0;", 3, 33);
        error("disk 64;part 0 4 0 1;lock 0;lock 1;", 2, 33);
        error("disk 64;part 0 4 0 1;lock 0 0;", 1, 28);
        PartitionBench b = Texts.bench("disk 64;part 0 4 0 1;part 4 4 0 1;lock 1;part 8 4 0 1;");
        check.due("print", Texts.print(b), "0[0,4] 1[4,4]* 2[8,4]");
    }

    private static void tokensOfTheText() {
        check.at("tokens");
        error("disk64;head3;part8 4 0 1;", 0, -1);
        error(" \n disk \n 64 ; \n", 0, -1);
        error("disk 64;\t", 1, 8);
        error("disk\r64;", 1, 4);
        error("Disk 64;", 1, 0);
        error("disK 64;", 1, 0);
        error("disk 64;part 0 4 0 1;{", 1, 21);
        error("disk 64;`", 1, 8);
        error("disk 64;chunk -1;", 1, 14);
        error("disk 64;chunk 4:", 1, 15);
        error("disk 64;chunk /4;", 1, 14);
        error("disk 64\u0000;", 1, 7);
        error("disk 64;\u00e9", 1, 8);
        error("disk 64;\u00ff", 1, 8);
        error("disk 64;chunk 0004;", 1, 14);
        error("disk 64;chunk 004;", 0, -1);
        error("disk 64;chunk 99999999999999999999;", 1, 14);
        error("disk 64;12345", 1, 8);
        error("di sk 64;", 1, 0);
        error("disk 6 4;", 2, 5);
        error("disk 64;part 0 4 0 1;lock 00;", 0, -1);
        // A word that only begins or ends like one that may stand there.
        error("diskdisk 64;", 1, 0);
        error("diskz 64;", 1, 0);
        error("adisk 64;", 1, 0);
        error("xisk 64;", 1, 0);
        error("disk 64;xead 3;", 1, 8);
        error("disk 64;xart 0 4 0 1;", 1, 8);
        error("dis", 1, 0);
        error("disk 64;part", 1, 12);
        error("disk 64;parts 0 4 0 1;", 1, 8);
        error("disk 64;locks 0;", 1, 8);
        error("disk 64;chunks 4;", 1, 8);
        error("disk 64;aligned 4;", 1, 8);
        error("disk 64;tails 4;", 1, 8);
    }

    /** A text that ends where more is required: the offset is its length, with the spaces at its end. */
    private static void endsOfTheText() {
        check.at("the end of the text");
        String[] texts = {"", "disk", "disk 64", "disk 64;head", "disk 64;head 3", "disk 64;tail", "disk 64;tail 3",
            "disk 64;align", "disk 64;align 3", "disk 64;chunk", "disk 64;chunk 3", "disk 64;part", "disk 64;part 0",
            "disk 64;part 0 4", "disk 64;part 0 4 0", "disk 64;part 0 4 0 1", "disk 64;part 0 4 0 1;lock",
            "disk 64;part 0 4 0 1;lock 0"};
        for (String text : texts) {
            error(text, 1, text.length());
            error(text + " \n ", 1, text.length() + 3);
            error(text + " part", 1, text.length() + 1);
        }
    }
}
