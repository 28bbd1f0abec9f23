import java.util.ArrayList;
import java.util.List;

/**
 * That a refused call changes nothing: two objects have the same calls, one of them the refused one more; then both are
 * asked for all that they hold, and answer the same, but told() of that one ERROR.
 */
final class Refused {
    private static final String[] NEW = {};

    /** Something of everything, an IMAGE that is not what is now, SHEET 3 missing. */
    private static final String[] SOME = {
        "glass 35 2 1", "glass 12 9 0", "glass 64 60 3", "glass 49 33 1", "person 0 1", "person 63 2", "person 33 3",
        // m+n for FEE, t+p for DUE; 7* is on THE TAPE in the IMAGE, 7*k now
        "feed 7220077 3", "text 0", "feed 7351156 3", "text 1",
        "hours 3", "seed -7", "tell 18", "feed 10807 2", "sheet 0 8 8", "put 0 0 1", "put 0 3 3", "put 0 7 2", "sheet 1 16 3",
        "put 1 1 2", "sheet 2 32 24", "put 2 0 2", "put 2 9 3", "put 2 23 1", "voice 3 3 5", "image", "glass 7 20 2",
        "person 9 0", "hour 5000", "spin 1 2", "tell 9", "pay 0 1", "feed 107 1", "hang 0 3",
    };

    /** As much of everything as there may be: the last HOUR, 60 bytes, 24 numbers that wait; EVER looks in row 0. */
    private static final String[] FULL = full();

    /** A promise, a call that is taken in SOME, and the least and greatest of each number that it is given. */
    private static final String[][] RANGES = {
        {"2", "glass 0 40 0", "0:69 0:63 0:3"}, {"3", "glassIs 0 0", "0:4 0:4"}, {"4", "throwsOn 0 0", "0:4 0:3"},
        {"5", "become 0 0", "0:4 0:69"}, {"6", "as 0 0", "0:4 0:6"}, {"7", "spin 0 0", "0:4 0:3"},
        {"8", "hang 0 40", "0:4 0:63"}, {"9", "person 5 1", "0:63 0:3"}, {"10", "personIs 0 0", "0:3 0:3"},
        {"11", "stand 0 5 1", "0:3 0:63 0:3"}, {"12", "pay 0 1", "0:3 0:99999"}, {"13", "hour 5", "0:9999"},
        {"14", "feed 7 1", "any 1:8"}, {"15", "text 0", "0:1"}, {"16", "untell 0", "0:1"},
        {"17", "law 0 1 2 3", "0:1 any any any"}, {"18", "hours 1", "1:48"}, {"19", "loose 1", "1:24"},
        {"21", "look 0 1 0", "0:63 0:3 0:3"}, {"22", "at 0 1 0", "0:63 0:3 0:any"}, {"23", "sees 0", "0:3"},
        {"24", "then 0 1", "0:3 0:48"}, {"25", "starts 5 0", "0:63 0:1"}, {"26", "spins 0 5 -1", "0:3 0:63 -1:3"},
        {"27", "odds 0", "0:1"}, {"28", "fits 0 0", "0:3 0:1"}, {"29", "voice 0 0 5", "0:4 0:3 any"},
        {"31", "sheet 0 8 5", "0:3 any any:24"}, {"32", "put 0 0 1", "0:3 0:7 any"},
        {"33", "move 0 0 0 0 1", "0:3 0:7 0:3 0:7 0:8"}, {"34", "turnsOf 0", "0:3"}, {"35", "judge 0", "0:3"},
        {"40", "count 0", "0:6"}, {"41", "told 1", "1:6"},
    };

    /** Calls that SOME refuses, and the ERROR that is asked first. */
    private static final String[][] IN_SOME = {
        {"glass 0 3 0", "STATE"}, {"glass 70 3 0", "BEYOND"}, {"glass 0 3 4", "BEYOND"}, {"as 0 1", "KIND"}, {"as 3 6", "KIND"},
        {"as 9 1", "BEYOND"}, {"as 0 7", "BEYOND"}, {"hang 0 9", "STATE"}, {"hang 1 3", "STATE"}, {"hang 9 9", "BEYOND"},
        {"at 0 0 1", "NONE"}, {"at 0 0 2147483647", "NONE"}, {"at 0 4 999", "BEYOND"}, {"at 64 0 999", "BEYOND"},
        {"spins 1 0 -1", "NONE"}, {"spins 1 0 3", "NONE"}, {"spins 1 0 4", "BEYOND"}, {"fits 3 0", "NONE"}, {"fits 3 1", "NONE"},
        {"fits 3 2", "BEYOND"}, {"fits 0 1", "NONE"}, {"body -1", "NONE"}, {"body 6", "NONE"}, {"body 30", "NONE"},
        {"voice 9 4 0", "BEYOND"}, {"voice 0 4 0", "BEYOND"}, {"sheet 0 8 -1", "STATE"}, {"sheet 3 8 -1", "STATE"},
        {"sheet 2 32 -2147483648", "STATE"}, {"sheet 4 8 -1", "BEYOND"}, {"sheet 0 7 -1", "BEYOND"}, {"sheet 0 7 1", "BEYOND"},
        {"sheet 3 24 0", "BEYOND"}, {"sheet 3 8 25", "BEYOND"}, {"sheet 4 0 0", "BEYOND"}, {"put 3 0 0", "NONE"},
        {"put 3 -1 0", "NONE"}, {"put 3 24 0", "NONE"}, {"put 4 -1 0", "BEYOND"}, {"put 1 3 0", "BEYOND"},
        {"put 2 24 7", "BEYOND"}, {"move 3 0 0 0 1", "NONE"}, {"move 0 0 3 0 1", "NONE"}, {"move 3 -1 3 -1 -1", "NONE"},
        {"move 4 0 3 0 1", "BEYOND"}, {"move 3 0 4 0 1", "BEYOND"}, {"move 0 0 1 0 1", "KIND"}, {"move 0 -1 1 -1 -1", "KIND"},
        {"move 0 5 0 0 4", "BEYOND"}, {"move 0 0 0 5 4", "BEYOND"}, {"move 0 0 0 1 8", "BEYOND"}, {"move 2 1 2 0 24", "BEYOND"},
        {"move 2 0 2 2147483647 1", "BEYOND"}, {"move 2 2147483647 2 0 2147483647", "BEYOND"}, {"turnsOf 3", "NONE"},
        {"judge 3", "NONE"}, {"hours 0", "BEYOND"}, {"loose 0", "BEYOND"}, {"told 0", "BEYOND"}, {"told 7", "BEYOND"},
    };

    private static final String[][] IN_FULL = {
        {"glass 0 40 0", "FULL"}, {"glass 0 0 0", "FULL"}, {"glass 70 40 0", "BEYOND"}, {"glass 0 64 0", "BEYOND"},
        {"glassIs 8 0", "BEYOND"}, {"hang 8 40", "BEYOND"}, {"person 0 0", "FULL"}, {"person 64 0", "BEYOND"},
        {"person 0 4", "BEYOND"}, {"personIs 6 0", "BEYOND"}, {"feed 49 1", "FULL"}, {"feed 49 8", "FULL"}, {"feed 49 0", "BEYOND"},
        {"feed 49 9", "BEYOND"}, {"text 2", "BEYOND"}, {"tell 0", "FULL"}, {"hours 1", "STATE"}, {"hours 48", "STATE"},
        {"hours 0", "BEYOND"}, {"hours 49", "BEYOND"}, {"loose 1", "STATE"}, {"loose 24", "STATE"}, {"loose 0", "BEYOND"},
        {"loose 25", "BEYOND"}, {"look 6 1 0", "NONE"}, {"look 6 1 1", "NONE"}, {"look 6 1 2", "NONE"}, {"look 6 1 4", "BEYOND"},
        {"at 6 1 257", "NONE"}, {"at 6 1 -1", "BEYOND"}, {"spins 0 63 -1", "NONE"}, {"sees 6", "BEYOND"}, {"hour 10000", "BEYOND"},
    };

    private static final String[][] IN_NEW = {
        {"glassIs 0 0", "BEYOND"}, {"throwsOn 0 0", "BEYOND"}, {"become 0 0", "BEYOND"}, {"as 0 0", "BEYOND"},
        {"spin 0 0", "BEYOND"}, {"hang 0 0", "BEYOND"}, {"personIs 0 0", "BEYOND"}, {"stand 0 0 0", "BEYOND"},
        {"pay 0 0", "BEYOND"}, {"sees 0", "BEYOND"}, {"then 0 0", "BEYOND"}, {"spins 0 0 -1", "BEYOND"}, {"fits 0 0", "NONE"},
        {"voice 0 0 0", "BEYOND"}, {"body 0", "NONE"}, {"put 0 0 0", "NONE"}, {"move 0 0 0 0 0", "NONE"}, {"turnsOf 0", "NONE"},
        {"judge 0", "NONE"}, {"restore", "NONE"},
    };

    /** Calls that are taken and change nothing. */
    private static final String[] STILL = {
        "glassIs 0 3", "throwsOn 0 1", "throwsOn 2 1", "as 0 0", "spin 0 1", "hang 0 3", "personIs 0 3", "stand 0 0 1", "pay 0 0",
        "hour 5000", "law 0 1 2 3", "law 1 1 2 3", "seed -7", "look 0 1 0", "look 0 1 3", "at 0 1 1", "sees 0", "then 0 48",
        "starts 3 0", "starts 3 1", "spins 0 2 -1", "spins 1 63 0", "odds 0", "odds 1", "fits 2 0", "body 0", "put 0 0 1",
        "move 0 0 0 0 8", "move 0 8 0 8 0", "judge 0", "judge 2", "count 0", "told 1",
    };

    private static final String[] STILL_IN_FULL = {
        "look 6 1 3", "at 6 1 256", "spins 5 55 -1", "spins 5 55 1", "then 0 0", "then 5 48", "sees 5", "odds 1", "starts 6 0",
        "fits 0 0", "judge 0", "law 1 999 23 5", "throwsOn 7 0", "hang 7 62", "turnsOf 1",
    };

    /** Two GLASSES that must both be turned. */
    private static final String[] TWO = {"person 8 1", "glass 0 10 0", "glass 0 13 0"};
    private static final String[] STILL_IN_TWO = {"spins 0 15 -1", "spins 0 15 3", "spins 0 5 0", "spins 0 8 -1"};

    private Refused() {
    }

    static void run() {
        Due.says(0, "Each act tells its ERRORS in the order in which they are asked; one that answers an ERROR changes nothing "
            + "but what told() tells, or where told.");
        ranges();
        refuse(SOME, IN_SOME);
        refuse(FULL, IN_FULL);
        refuse(NEW, IN_NEW);
        still(SOME, STILL);
        still(FULL, STILL_IN_FULL);
        still(TWO, STILL_IN_TWO);
    }

    private static String[] full() {
        List<String> calls = new ArrayList<>();
        int[] cells = {0, 5, 7, 12, 30, 47, 56, 62};
        int[] kms = {9, 30, 30, 24, 13, 41, 53, 66};
        for (int i = 0; i < 8; i++) {
            calls.add("glass " + kms[i] + " " + cells[i] + " " + i % 4);
        }
        calls.add("sheet 1 32 8");
        for (int i = 0; i < 8; i++) {
            calls.add("put 1 " + i + " " + i % 4);
        }
        for (int i = 0; i < 6; i++) {
            calls.add("person " + 9 * i + " " + i % 4);
        }
        calls.add("sheet 0 8 24");
        calls.add("put 0 23 3");
        calls.add("voice 5 3 8");
        calls.add("hours 20");
        calls.add("image");
        for (int i = 0; i < 24; i++) {
            calls.add("tell " + i);
        }
        // 1+1+1+1+, and at the end 1+1*
        for (int i = 0; i < 7; i++) {
            calls.add("feed " + 0x2B312B312B312B31L + " 8");
        }
        calls.add("feed " + 0x2A312B31L + " 4");
        calls.add("hour 9999");
        return calls.toArray(new String[0]);
    }

    private static void refuse(String[] begins, String[][] calls) {
        for (String[] row : calls) {
            twins(begins, row[0], error(row[1]));
        }
    }

    private static void still(String[] begins, String[] calls) {
        for (String call : calls) {
            twins(begins, call, 0);
        }
    }

    private static int error(String name) {
        switch (name) {
            case "BEYOND": return 1;
            case "NONE": return 2;
            case "STATE": return 3;
            case "FULL": return 4;
            case "KIND": return 5;
            default: throw new IllegalArgumentException(name);
        }
    }

    /** The least and the greatest of each number are taken, those beyond and far beyond are not. */
    private static void ranges() {
        for (String[] row : RANGES) {
            String[] ranges = row[2].split(" ");
            for (int i = 0; i < ranges.length; i++) {
                if (ranges[i].equals("any")) {
                    taken(row, i, Integer.MIN_VALUE);
                    taken(row, i, Integer.MAX_VALUE);
                    continue;
                }
                String[] ends = ranges[i].split(":");
                if (!ends[0].equals("any")) {
                    taken(row, i, Integer.parseInt(ends[0]));
                    twins(SOME, with(row[1], i, Integer.parseInt(ends[0]) - 1), 1);
                    twins(SOME, with(row[1], i, Integer.MIN_VALUE), 1);
                }
                if (!ends[1].equals("any")) {
                    taken(row, i, Integer.parseInt(ends[1]));
                    twins(SOME, with(row[1], i, Integer.parseInt(ends[1]) + 1), 1);
                    twins(SOME, with(row[1], i, Integer.MAX_VALUE), 1);
                }
            }
        }
    }

    private static String with(String call, int i, int number) {
        String[] words = call.split(" ");
        words[i + 1] = String.valueOf(number);
        return String.join(" ", words);
    }

    private static void taken(String[] row, int i, int number) {
        String call = with(row[1], i, number);
        boolean isBits = call.startsWith("sheet") && i == 1;
        boolean isBeyond = new Run(SOME).ask(call) == Due.BEYOND;
        Due.isTrue("promise " + row[0] + ", " + call + (isBits ? " is" : " isn't") + " BEYOND", isBits == isBeyond);
    }

    /** k 0: the call is no ERROR. */
    private static void twins(String[] begins, String call, int k) {
        Run refused = new Run(begins);
        Run other = new Run(begins);
        int answer = refused.ask(call);
        Due.is(call, k == 0 && answer >= -1000000000 ? 0 : answer, k == 0 ? 0 : -1000000000 - k);
        for (int i = 1; i <= 6; i++) {
            Due.is("behind " + call + ", told " + i, refused.ask("told " + i), other.ask("told " + i) + (i == k ? 1 : 0));
        }
        List<String> of = holds(refused);
        List<String> due = holds(other);
        Due.is("behind " + call + ", how many answers", of.size(), due.size());
        for (int i = 0; i < of.size() && i < due.size(); i++) {
            if (!of.get(i).equals(due.get(i))) {
                Due.isText("behind " + call, of.get(i), due.get(i));
            }
        }
        Due.isTrue("no more calls than there may be: " + refused.calls(), refused.calls() <= Run.MOST_CALLS);
    }

    /** All that an object holds, then what its IMAGE holds, as answers of calls. */
    private static List<String> holds(Run run) {
        List<String> answers = new ArrayList<>();
        street(run, answers);
        for (int i = run.ask("count 5") - 1; i >= 0; i--) {
            note(run, answers, "body " + i);
        }
        sheetRows(run, answers);
        tapeAndWaiting(run, answers);
        note(run, answers, "restore");
        street(run, answers);
        tapeAndWaiting(run, answers);
        note(run, answers, "image");
        sheetNumbers(run, answers);
        return answers;
    }

    private static void note(Run run, List<String> answers, String call) {
        answers.add(call + " is " + run.ask(call));
    }

    private static void street(Run run, List<String> answers) {
        for (int i = 0; i < 7; i++) {
            note(run, answers, "count " + i);
        }
        for (int i = 0; i < run.ask("count 0"); i++) {
            for (int what = 0; what < 5; what++) {
                note(run, answers, "glassIs " + i + " " + what);
            }
        }
        for (int i = 0; i < run.ask("count 1"); i++) {
            for (int what = 0; what < 4; what++) {
                note(run, answers, "personIs " + i + " " + what);
            }
        }
        String[] laws = {"law 0 3 4 5", "law 0 60 7 0", "law 1 3 4 5", "law 1 900 23 50"};
        for (String law : laws) {
            note(run, answers, law);
        }
    }

    private static void sheetRows(Run run, List<String> answers) {
        for (int s = 0; s < 4; s++) {
            note(run, answers, "fits " + s + " 0");
            note(run, answers, "judge " + s);
            for (int other = s + 1; other < 4; other++) {
                note(run, answers, "move " + s + " 0 " + other + " 0 0");
            }
            int[] sizes = {1, 3, 4, 5, 8, 9, 24};
            for (int n : sizes) {
                note(run, answers, "move " + s + " 0 " + s + " 0 " + n);
            }
        }
    }

    private static void tapeAndWaiting(Run run, List<String> answers) {
        String[] calls = {"check", "text 0", "law 0 3 4 5", "law 0 1 2 3"};
        for (String call : calls) {
            note(run, answers, call);
        }
    }

    /** The numbers are TURNS, so that the GLASSES tell them, eight by eight. */
    private static void sheetNumbers(Run run, List<String> answers) {
        for (int i = run.ask("count 0"); i < 8; i++) {
            run.ask("glass 0 " + (40 + i) + " 0");
        }
        for (int s = 0; s < 4; s++) {
            for (int from = 0; from < 24; from += 8) {
                run.ask("move " + s + " " + from + " " + s + " 0 8");
                note(run, answers, "turnsOf " + s);
                for (int i = 0; i < 8; i++) {
                    note(run, answers, "glassIs " + i + " 3");
                }
            }
        }
    }
}
