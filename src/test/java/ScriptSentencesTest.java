/** What the document says of scripts under "Terms", sentence by sentence: each boundary case has a test of its own. */
public final class ScriptSentencesTest {
    private static final Checks CHECKS = new Checks("ScriptSentencesTest");
    private static final Sentences SCRIPTS = new Sentences(CHECKS, "Terms: Scripts", "Terms: Undo");
    private static final int MOST_BYTES = 600;
    /** As many commands as a script may execute. */
    private static final String ALL_COMMANDS = "street 8;repeat 20(repeat 10(leak 1;););";

    public static void main(String[] args) {
        SCRIPTS.under("Terms: Scripts");
        length();
        tokens();
        blanks();
        commands();
        repeats();
        order();
        firstError();
        smallestKind();
        wrongTokens();
        endOfTheText();
        wrongNumbers();
        numbersThatDoNotExist();
        parcelAndClaim();
        refusedCommands();
        refusedBalloons();
        repeatInRepeats();
        tooManyCommands();
        SCRIPTS.finish();
    }

    private static void length() {
        String most = "A script is a text of at most 600 bytes.";
        SCRIPTS.test(most, () -> CHECKS.good("street 8;" + " ".repeat(MOST_BYTES - 14) + "gas1;"));
        SCRIPTS.test(most, () -> CHECKS.good("street " + "\n".repeat(MOST_BYTES - 9) + "8;"));
        SCRIPTS.test(most, () -> {
            BalloonPost post = new BalloonPost();
            Checks.feed(post, "street 8;" + " ".repeat(MOST_BYTES - 9));
            CHECKS.same("more than 600 bytes", post.append(0, 0, 0, 0, 0), -1);
            CHECKS.same("what stands is executed", post.runScript(), 0);
        });
    }

    private static void tokens() {
        String token = "A token is a word (a maximal run of the letters a to z), a number (a maximal run of 1 to 3 digits), a parenthesis or a "
                + "semicolon.";
        SCRIPTS.test(token, () -> {
            CHECKS.same("1 digit", Checks.after("street 8;gas 7;").gas(), 57);
            CHECKS.same("2 digits", Checks.after("street 8;gas 07;").gas(), 57);
            CHECKS.same("3 digits", Checks.after("street 8;gas 007;").gas(), 57);
            CHECKS.same("3 digits", Checks.after("street 8;gas 200;").gas(), 250);
            CHECKS.bad(1, "street 8;gas ^0007;");
        });
        SCRIPTS.test(token, () -> {
            CHECKS.good("street8;roof1 2;gust east3;repeat2(gas1;);");
            CHECKS.bad(1, "street 8;gust ^easteast 3;");
            CHECKS.bad(1, "street 8;^gasleak 3;");
            CHECKS.bad(1, "street 8;^ga s 3;");
        });
        SCRIPTS.test(token, () -> {
            CHECKS.bad(1, "street 8;roof 1^\u0060");
            CHECKS.bad(1, "street 8;roof 1^a");
            CHECKS.bad(1, "street 8;roof 1^z");
            CHECKS.bad(1, "street 8;roof 1^{");
        });
        SCRIPTS.test(token, () -> {
            for (int sign = 0; sign < 256; sign++) {
                signBetween((char) sign);
            }
        });
    }

    /** In front of the number only blanks and digits go; a letter makes another word. */
    private static void signBetween(char sign) {
        boolean letter = sign >= 'a' && sign <= 'z';
        boolean digit = sign >= '0' && sign <= '9';
        if (digit || sign == ' ' || sign == '\n') {
            CHECKS.good("street 8;gas" + sign + "5;");
        } else {
            CHECKS.bad(1, letter ? 9 : 12, "street 8;gas" + sign + "5;");
        }
    }

    private static void blanks() {
        String blanks = "Spaces (byte 32) and line feeds (byte 10) separate tokens and are otherwise ignored.";
        SCRIPTS.test(blanks, () -> CHECKS.good("\n \nstreet\n8 \n;\ngas  \n\n  5\n;\n"));
        SCRIPTS.test(blanks, () -> CHECKS.bad(1, "street 8;gas 1 ^2;"));
        SCRIPTS.test(blanks, () -> CHECKS.bad(1, "street 8;gas 1\n^2;"));
        SCRIPTS.test(blanks, () -> CHECKS.bad(1, "^stre et 8;"));
        SCRIPTS.test(blanks, () -> CHECKS.bad(1, "^"));
        SCRIPTS.test(blanks, () -> CHECKS.bad(1, " \n ^"));
        SCRIPTS.test(blanks, () -> CHECKS.bad(1, "street^\t8;"));
        SCRIPTS.test(blanks, () -> CHECKS.bad(1, "street^\r8;"));
        SCRIPTS.test(blanks, () -> CHECKS.bad(1, "street^\u00a08;"));
    }

    private static void commands() {
        String methods = "The commands stand for the methods setRoof, setTree, addGust (N is 0 to 3, negative for \"west\"), setLeak, addBalloon, "
                + "addParcel (with the origin and the destination), tie, untie, launch, moor, free, fill, addGas, claim and passHours;";
        SCRIPTS.test(methods, () -> {
            BalloonPost post = Checks.after("street 8;gust east 0;gust east 3;gust west 0;gust west 3;");
            int[] gusts = {0, 3, 0, -3};
            for (int hour = 0; hour < gusts.length; hour++) {
                CHECKS.same("gust " + hour, post.gustAt(hour), gusts[hour]);
            }
        });
        SCRIPTS.test(methods, () -> CHECKS.bad(2, "street 8;gust east ^4;"));
        SCRIPTS.test(methods, () -> CHECKS.bad(2, "street 8;gust west ^4;"));
        SCRIPTS.test(methods, () -> CHECKS.bad(1, "street 8;gust east ^-1;"));
        SCRIPTS.test(methods, () -> {
            BalloonPost post = Checks.after("street 8;parcel 9 7 0 99;");
            int[] got = {post.weight(0), post.parcelPlace(0), post.destination(0), post.parcelWith(99)};
            int[] want = {9, 7, 0, 0};
            for (int i = 0; i < want.length; i++) {
                CHECKS.same("value " + i + " of the parcel", got[i], want[i]);
            }
        });
        SCRIPTS.test(methods, () -> {
            BalloonPost byCalls = Checks.after("street 8;");
            byCalls.setRoof(7, 9);
            byCalls.setTree(1, 8);
            byCalls.addGust(1);
            byCalls.setLeak(1);
            byCalls.addBalloon(0, 9, 4);
            byCalls.addBalloon(2, 5, 3);
            byCalls.addParcel(2, 0, 2, 42);
            byCalls.addParcel(3, 2, 3, 43);
            byCalls.tie(0, 0);
            byCalls.tie(1, 1);
            byCalls.untie(1);
            byCalls.launch(0);
            byCalls.launch(1);
            byCalls.moor(1);
            byCalls.passHours(2);
            byCalls.free(0);
            byCalls.fill(0, 3);
            byCalls.addGas(100);
            byCalls.claim(2, 43);
            String script = "street 8;roof 7 9;tree 1 8;gust east 1;leak 1;balloon 0 9 4;balloon 2 5 3;parcel 2 0 2 42;parcel 3 2 3 43;tie 0 0;tie 1 1;"
                    + "untie 1;launch 0;launch 1;moor 1;hours 2;free 0;fill 0 3;gas 100;claim 2 43;";
            CHECKS.sameText("the same by calls and by a script", Checks.stateOf(Checks.after(script)), Checks.stateOf(byCalls));
        });
    }

    private static void repeats() {
        String times = "\"repeat\" executes the commands in its parentheses N times (1 to 20).";
        SCRIPTS.test(times, () -> CHECKS.bad(2, "street 8;repeat ^0(gas 1;);"));
        SCRIPTS.test(times, () -> CHECKS.same("once", Checks.after("street 8;repeat 1(gas 1;);").gas(), 51));
        SCRIPTS.test(times, () -> CHECKS.same("20 times", Checks.after("street 8;repeat 20(gas 1;);").gas(), 70));
        SCRIPTS.test(times, () -> CHECKS.bad(2, "street 8;repeat ^21(gas 1;);"));
        SCRIPTS.test(times, () -> CHECKS.same("no commands", Checks.after("street 8;repeat 20();gas 1;").gas(), 51));
        SCRIPTS.test(times, () -> CHECKS.same("20 times 10 times", Checks.after("street 8;repeat 20(repeat 10(gas 1;););").gas(), 250));
        SCRIPTS.test(times, () -> CHECKS.same("two commands", Checks.after("street 8;repeat 3(gas 1;gas 2;);").gas(), 59));
        SCRIPTS.test(times, () -> CHECKS.same("the inner one begins afresh each time",
                Checks.after("street 8;repeat 2(repeat 3(gas 1;);gas 10;repeat 2(gas 5;););").gas(), 50 + 2 * (3 + 10 + 10)));
    }

    private static void order() {
        SCRIPTS.test("Commands are executed one after the other.", () -> {
            CHECKS.same("a claim, then the same number again", Checks.after("street 8;parcel 1 0 1 7;claim 0 7;parcel 1 0 1 7;").parcelCount(), 2);
            CHECKS.bad(3, "street 8;parcel 1 0 1 7;parcel 1 0 1 7^;claim 0 7;");
        });
    }

    private static void firstError() {
        String first = "The first error that is found while the commands are executed is reported with the offset of the first byte of its token, "
                + "also if it is found in a later repetition;";
        SCRIPTS.test(first, () -> CHECKS.bad(2, "street 8;roof ^8 10;"));
        SCRIPTS.test(first, () -> CHECKS.bad(2, "street 8;roof 0 ^10;oops"));
        SCRIPTS.test(first, () -> CHECKS.bad(1, "street 8;roof 0 ^x;tie 0 0;"));
        SCRIPTS.test(first, () -> CHECKS.bad(3, "street 8;repeat 5(gas 200^;)oops"));
        SCRIPTS.test(first, () -> CHECKS.bad(1, "street 8;repeat 4(gas 200;)^oops"));
        SCRIPTS.test(first, () -> CHECKS.bad(3, "street 8;repeat 2(balloon 0 9 9;tree 0 9;launch 0^;);"));
        SCRIPTS.test(first, () -> CHECKS.bad(2, "street 8;parcel 1 0 1 7;repeat 2(gas 1;claim 0 ^7;);"));
        SCRIPTS.test(first, () -> CHECKS.bad(3, "street 8;repeat 20(repeat 5(gas 10^;););"));
        SCRIPTS.test(first, () -> CHECKS.bad(1, "street 8;gas 1;^oops"));
        SCRIPTS.test(first, () -> CHECKS.bad(2, "street 8;tie \n  ^000 0;"));
    }

    private static void smallestKind() {
        String smallest = "if several kinds of error apply to one token, the smallest kind is reported.";
        SCRIPTS.test(smallest, () -> CHECKS.bad(1, "street 8;roof 0 ^1000;"));
        SCRIPTS.test(smallest, () -> CHECKS.bad(1, "street ^0031;"));
        SCRIPTS.test(smallest, () -> CHECKS.bad(1, "street 8;repeat 1(repeat 1(gas ^repeat"));
        SCRIPTS.test(smallest, () -> CHECKS.bad(1, ALL_COMMANDS + "^oops"));
        SCRIPTS.test(smallest, () -> CHECKS.bad(1, ALL_COMMANDS + "^street"));
        SCRIPTS.test(smallest, () -> CHECKS.bad(4, ALL_COMMANDS + "repeat 1(repeat 1(^repeat 1(gas 1;););"));
        SCRIPTS.test(smallest, () -> CHECKS.bad(1, "street 8;moor ^;"));
        SCRIPTS.test(smallest, () -> CHECKS.bad(2, "street 8;parcel 1 0 1 7;parcel 1 0 ^0 7;"));
    }

    private static void wrongTokens() {
        SCRIPTS.namesNoBoundary("The error kinds are:");
        String one = "1, a token that the grammar does not allow at this place, a run of more than 3 digits, a byte that does not begin a token, or "
                + "the end of the text inside a statement (the offset is then the length of the text);";
        SCRIPTS.test(one, () -> CHECKS.bad(1, "^gas 1;"));
        SCRIPTS.test(one, () -> CHECKS.bad(1, "street ^street;"));
        SCRIPTS.test(one, () -> CHECKS.bad(1, "street 8^(;"));
        SCRIPTS.test(one, () -> CHECKS.bad(1, "street 8;^street 8;"));
        SCRIPTS.test(one, () -> CHECKS.bad(1, "street 8;^;"));
        SCRIPTS.test(one, () -> CHECKS.bad(1, "street 8;^5;"));
        SCRIPTS.test(one, () -> CHECKS.bad(1, "street 8;^(gas 1;);"));
        SCRIPTS.test(one, () -> CHECKS.bad(1, "street 8;^)"));
        SCRIPTS.test(one, () -> CHECKS.bad(1, "street 8;repeat 2(gas 1;);^)"));
        SCRIPTS.test(one, () -> CHECKS.bad(1, "street 8;repeat 2(gas 1^)"));
        SCRIPTS.test(one, () -> CHECKS.bad(1, "street 8;repeat 2(gas 1;)^)"));
        SCRIPTS.test(one, () -> CHECKS.bad(1, "street 8;repeat 2^)gas 1;);"));
        SCRIPTS.test(one, () -> CHECKS.bad(1, "street 8;repeat 2(gas 1;^(;"));
        SCRIPTS.test(one, () -> CHECKS.bad(1, "street 8;repeat 2(gas 1;^;);"));
        SCRIPTS.test(one, () -> CHECKS.bad(1, "street 8;repeat 2(^street 8;);"));
        SCRIPTS.test(one, () -> CHECKS.bad(1, "street 8;repeat 2^gas 1;"));
        SCRIPTS.test(one, () -> CHECKS.bad(1, "street 8;repeat ^gas 1;"));
        SCRIPTS.test(one, () -> CHECKS.bad(1, "street 8;gust ^3;"));
        SCRIPTS.test(one, () -> CHECKS.bad(1, "street 8;gust ^gust 3;"));
        SCRIPTS.test(one, () -> CHECKS.bad(1, "street 8;gust east ^west;"));
        String[] commands = {"roof 0 0", "tree 0 0", "gust east 0", "leak 1", "balloon 0 1 1", "parcel 1 0 1 0", "tie 0 0", "untie 0", "launch 0",
            "moor 0", "free 0", "fill 0 1", "gas 1", "claim 0 5", "hours 1"};
        for (String command : commands) {
            SCRIPTS.test(one, () -> numbersTooFewOrTooMany(command));
        }
        SCRIPTS.test(one, () -> CHECKS.bad(1, "street ^1000;"));
        SCRIPTS.test(one, () -> CHECKS.bad(1, "street 8;claim 0 ^0000;"));
        SCRIPTS.test(one, () -> CHECKS.bad(1, "street 8;repeat ^0001(gas 1;);"));
        SCRIPTS.test(one, () -> CHECKS.bad(1, "street 8;gas ^4294967301;"));
        SCRIPTS.test(one, () -> CHECKS.bad(1, "street 8;^_gas 1;"));
        SCRIPTS.test(one, () -> CHECKS.bad(1, "street 8;gas 1^,"));
        SCRIPTS.test(one, () -> CHECKS.bad(1, "street 8;gas 1;^\0"));
        SCRIPTS.test(one, () -> CHECKS.bad(1, "street 8;^Gas 1;"));
        SCRIPTS.test(one, () -> CHECKS.bad(1, "street 8;^gaS 1;"));
    }

    /** The things that the command names exist, and a claim finds its parcel. */
    private static void numbersTooFewOrTooMany(String command) {
        String head = "street 8;balloon 0 9 9;parcel 1 0 1 5;";
        int last = command.lastIndexOf(' ') + 1;
        CHECKS.bad(1, head + command.substring(0, last) + "^;");
        CHECKS.bad(1, head + command + " ^0;");
        CHECKS.bad(1, head + command + "^)");
    }

    /** Cut off behind each byte, this script ends inside a statement or between two. */
    private static void endOfTheText() {
        String one = "1, a token that the grammar does not allow at this place, a run of more than 3 digits, a byte that does not begin a token, or "
                + "the end of the text inside a statement (the offset is then the length of the text);";
        SCRIPTS.test(one, () -> {
            String[] words = {"street", " 8", ";", "gust", " west", " 2", ";", "balloon", " 0", " 9", " 9", ";", "repeat", " 2", "(", "repeat", " 2",
                "(", "gas", " 1", ";", ")", ";", ")", ";", "hours", " 1", ";"};
            StringBuilder text = new StringBuilder();
            CHECKS.bad(1, "^");
            for (int i = 0; i < words.length; i++) {
                text.append(words[i]);
                boolean complete = i == 2 || i == 6 || i == 11 || i == 24 || i == 27;
                for (String blank : new String[] {"", " ", "\n\n  "}) {
                    if (complete) {
                        CHECKS.good(text + blank);
                    } else {
                        CHECKS.bad(1, text + blank + "^");
                    }
                }
            }
        });
        SCRIPTS.test(one, () -> CHECKS.bad(1, "street 8;gas" + " ".repeat(MOST_BYTES - 12) + "^"));
        SCRIPTS.test(one, () -> {
            BalloonPost post = new BalloonPost();
            Checks.feed(post, "street 8;gas 12;");
            post.truncateInput(14);
            CHECKS.same("what was cut off is no part of the text", post.runScript(), -1);
            CHECKS.same("kind", post.scriptErrorKind(), 1);
            CHECKS.same("offset", post.scriptErrorOffset(), 14);
        });
    }

    private static void wrongNumbers() {
        String two = "2, a number that is out of its range (as for the method) or does not exist, a second PLACE of \"parcel\" that is the first one, "
                + "and the NUMBER of \"claim\" if no such parcel lies there;";
        String[] least = {"roof 0 0", "tree 0 0", "gust east 0", "gust west 0", "leak 1", "balloon 0 1 9", "balloon 0 9 1", "parcel 1 0 1 9", "parcel 9 0 1 0",
            "balloon 0 1 1;fill 0 1", "gas 1", "hours 1", "repeat 1()"};
        String[] most = {"roof 0 9", "tree 0 9", "gust east 3", "gust west 3", "leak 9", "balloon 0 30 9", "balloon 0 9 9", "parcel 9 0 1 9", "parcel 9 0 1 99",
            "balloon 0 1 1;fill 0 29", "gas 200", "hours 24", "repeat 20()"};
        String[] less = {"leak ^0", "balloon 0 ^0 9", "balloon 0 9 ^0", "parcel ^0 0 1 9", "balloon 0 1 1;fill 0 ^0", "gas ^0", "hours ^0", "repeat ^0()",
            "repeat ^000()"};
        String[] more = {"roof 0 ^10", "tree 0 ^10", "gust east ^4", "gust west ^4", "leak ^10", "balloon 0 ^31 9", "balloon 0 9 ^10", "parcel ^10 0 1 9",
            "parcel 9 0 1 ^100", "balloon 0 1 1;fill 0 ^30", "gas ^201", "hours ^25", "repeat ^21()"};
        for (int i = 0; i < least.length; i++) {
            String lowest = least[i];
            String highest = most[i];
            SCRIPTS.test(two, () -> CHECKS.good("street 8;" + lowest + ";"));
            SCRIPTS.test(two, () -> CHECKS.good("street 8;" + highest + ";"));
        }
        for (String command : less) {
            SCRIPTS.test(two, () -> CHECKS.bad(2, "street 8;" + command + ";"));
        }
        for (String command : more) {
            SCRIPTS.test(two, () -> CHECKS.bad(2, "street 8;" + command + ";"));
            SCRIPTS.test(two, () -> CHECKS.bad(2, "street 8;" + command.replaceAll("\\^\\d+", "^999") + ";"));
        }
        SCRIPTS.test(two, () -> CHECKS.bad(2, "street ^7;"));
        SCRIPTS.test(two, () -> CHECKS.bad(2, "street ^0;"));
        SCRIPTS.test(two, () -> CHECKS.bad(2, "street ^31;"));
        SCRIPTS.test(two, () -> CHECKS.bad(2, "street ^999;"));
    }

    private static void numbersThatDoNotExist() {
        String two = "2, a number that is out of its range (as for the method) or does not exist, a second PLACE of \"parcel\" that is the first one, "
                + "and the NUMBER of \"claim\" if no such parcel lies there;";
        String[] places = {"roof ^# 0", "tree ^# 0", "balloon ^# 1 1", "parcel 1 ^# 1 0", "parcel 1 1 ^# 0", "claim ^# 5"};
        for (String command : places) {
            SCRIPTS.test(two, () -> {
                CHECKS.bad(2, "street 8;" + command.replace("#", "8") + ";");
                CHECKS.bad(2, "street 30;" + command.replace("#", "30") + ";");
                CHECKS.bad(2, "street 8;" + command.replace("#", "999") + ";");
            });
        }
        for (String command : new String[] {"roof 7 0", "tree 7 0", "balloon 7 1 1", "parcel 1 7 1 0", "parcel 1 1 7 0", "parcel 1 7 1 5;claim 7 5"}) {
            SCRIPTS.test(two, () -> CHECKS.good("street 8;" + command + ";"));
        }
        String[] things = {"tie ^2 0", "tie 0 ^2", "untie ^2", "launch ^2", "moor ^2", "free ^2", "fill ^2 1"};
        for (String command : things) {
            SCRIPTS.test(two, () -> {
                CHECKS.bad(2, "street 8;repeat 2(balloon 0 9 9;);parcel 1 0 1 0;parcel 1 0 1 1;" + command + ";");
                CHECKS.bad(2, "street 8;balloon 0 9 9;parcel 1 0 1 0;" + command.replace("2", "1") + ";");
            });
        }
        for (String command : new String[] {"tie ^0 0", "untie ^0", "launch ^0", "moor ^0", "free ^0", "fill ^0 1"}) {
            SCRIPTS.test(two, () -> CHECKS.bad(2, "street 8;" + command + ";"));
        }
        SCRIPTS.test(two, () -> CHECKS.bad(2, "street 8;parcel 1 0 1 0;tie 0 ^0;"));
        SCRIPTS.test(two, () -> CHECKS.good("street 8;repeat 8(balloon 0 9 9;);launch 7;moor 7;fill 7 1;parcel 1 0 1 0;tie 0 7;untie 0;"));
        SCRIPTS.test(two, () -> CHECKS.bad(2, "street 8;repeat 8(balloon 0 9 9;);launch ^8;"));
        SCRIPTS.test(two, () -> CHECKS.good("street 8;balloon 0 9 9;repeat 15(parcel 1 0 1 5;claim 0 5;);parcel 1 0 1 5;tie 15 0;untie 15;"));
        SCRIPTS.test(two, () -> CHECKS.bad(2, "street 8;balloon 0 9 9;repeat 16(parcel 1 0 1 5;claim 0 5;);tie ^16 0;"));
    }

    private static void parcelAndClaim() {
        String two = "2, a number that is out of its range (as for the method) or does not exist, a second PLACE of \"parcel\" that is the first one, "
                + "and the NUMBER of \"claim\" if no such parcel lies there;";
        SCRIPTS.test(two, () -> CHECKS.bad(2, "street 8;parcel 1 0 ^0 5;"));
        SCRIPTS.test(two, () -> CHECKS.bad(2, "street 8;parcel 1 7 ^7 5;"));
        SCRIPTS.test(two, () -> CHECKS.bad(2, "street 8;parcel 1 7 ^007 100;"));
        SCRIPTS.test(two, () -> CHECKS.good("street 8;parcel 1 7 6 6;parcel 1 6 7 7;"));
        String head = "street 8;balloon 0 9 9;parcel 1 0 1 5;";
        SCRIPTS.test(two, () -> CHECKS.good(head + "claim 0 5;"));
        SCRIPTS.test(two, () -> CHECKS.bad(2, head + "claim 0 ^4;"));
        SCRIPTS.test(two, () -> CHECKS.bad(2, head + "claim 0 ^0;"));
        SCRIPTS.test(two, () -> CHECKS.bad(2, head + "claim 0 ^99;"));
        SCRIPTS.test(two, () -> CHECKS.bad(2, head + "claim 0 ^100;"));
        SCRIPTS.test(two, () -> CHECKS.bad(2, head + "claim 1 ^5;"));
        SCRIPTS.test(two, () -> CHECKS.bad(2, head + "tie 0 0;claim 0 ^5;"));
        SCRIPTS.test(two, () -> CHECKS.bad(2, head + "claim 0 5;claim 0 ^5;"));
        SCRIPTS.test(two, () -> CHECKS.bad(2, "street 8;claim 0 ^0;"));
        SCRIPTS.test(two, () -> CHECKS.good(head + "tie 0 0;untie 0;claim 0 5;parcel 1 0 1 5;claim 0 5;"));
    }

    private static void refusedCommands() {
        String three = "3, the semicolon behind a command whose method would throw an IllegalStateException;";
        SCRIPTS.test(three, () -> CHECKS.good("street 8;repeat 12(gust east 1;);"));
        SCRIPTS.test(three, () -> CHECKS.bad(3, "street 8;repeat 12(gust east 1;);gust east 0^;"));
        SCRIPTS.test(three, () -> CHECKS.good("street 8;repeat 8(balloon 0 9 9;);"));
        SCRIPTS.test(three, () -> CHECKS.bad(3, "street 8;repeat 8(balloon 0 9 9;);balloon 0 9 9^;"));
        SCRIPTS.test(three, () -> CHECKS.good("street 8;repeat 16(parcel 1 0 1 5;claim 0 5;);"));
        SCRIPTS.test(three, () -> CHECKS.bad(3, "street 8;repeat 16(parcel 1 0 1 5;claim 0 5;);parcel 1 0 1 5 \n^;"));
        SCRIPTS.test(three, () -> CHECKS.bad(3, "street 8;parcel 1 0 1 5;parcel 2 3 4 5^;"));
        SCRIPTS.test(three, () -> CHECKS.good("street 8;repeat 4(gas 200;);gas 149;"));
        SCRIPTS.test(three, () -> CHECKS.bad(3, "street 8;repeat 4(gas 200;);gas 150^;"));
        SCRIPTS.test(three, () -> CHECKS.good("street 8;repeat 20(hours 24;hours 24;);hours 24;hours 15;"));
        SCRIPTS.test(three, () -> CHECKS.bad(3, "street 8;repeat 20(hours 24;hours 24;);hours 24;hours 16^;"));
        SCRIPTS.test(three, () -> CHECKS.bad(3, "street 8;repeat 20(hours 24;hours 24;);hours 24;hours 15;hours 1^;"));
        SCRIPTS.test(three, () -> CHECKS.bad(3, "street 8;balloon 0 9 9;parcel 1 0 1 5;untie 0^;"));
        SCRIPTS.test(three, () -> CHECKS.bad(3, "street 8;balloon 0 9 9;parcel 1 0 1 5;claim 0 5;untie 0^;"));
        SCRIPTS.test(three, () -> CHECKS.bad(3, "street 8;balloon 0 9 9;parcel 1 0 1 5;tie 0 0;launch 0;untie 0^;"));
    }

    private static void refusedBalloons() {
        String three = "3, the semicolon behind a command whose method would throw an IllegalStateException;";
        String moored = "street 8;balloon 0 9 9;parcel 9 0 1 5;parcel 8 0 1 6;";
        String flying = moored + "launch 0;";
        String caught = moored + "launch 0;gust east 1;tree 1 9;hours 1;";
        SCRIPTS.test(three, () -> CHECKS.bad(3, moored + "tie 0 0^;"));
        SCRIPTS.test(three, () -> CHECKS.good(moored + "tie 1 0;"));
        SCRIPTS.test(three, () -> CHECKS.bad(3, moored + "tie 1 0;tie 1 0^;"));
        SCRIPTS.test(three, () -> CHECKS.bad(3, flying + "tie 1 0^;"));
        SCRIPTS.test(three, () -> CHECKS.bad(3, moored + "balloon 1 9 9;tie 1 1^;"));
        SCRIPTS.test(three, () -> CHECKS.bad(3, "street 8;balloon 0 9 9;parcel 1 0 1 1;parcel 1 0 1 2;parcel 1 0 1 3;parcel 1 0 1 4;parcel 1 0 1 5;"
                + "tie 0 0;tie 1 0;tie 2 0;tie 3 0;tie 4 0^;"));
        SCRIPTS.test(three, () -> CHECKS.bad(3, flying + "launch 0^;"));
        SCRIPTS.test(three, () -> CHECKS.bad(3, moored + "tree 0 9;launch 0^;"));
        SCRIPTS.test(three, () -> CHECKS.good(moored + "tree 0 8;launch 0;"));
        SCRIPTS.test(three, () -> CHECKS.bad(3, caught + "launch 0^;"));
        SCRIPTS.test(three, () -> CHECKS.bad(3, moored + "moor 0^;"));
        SCRIPTS.test(three, () -> CHECKS.bad(3, caught + "moor 0^;"));
        SCRIPTS.test(three, () -> CHECKS.good(flying + "moor 0;"));
        SCRIPTS.test(three, () -> CHECKS.bad(3, moored + "free 0^;"));
        SCRIPTS.test(three, () -> CHECKS.bad(3, flying + "free 0^;"));
        SCRIPTS.test(three, () -> CHECKS.good(caught + "free 0;"));
        SCRIPTS.test(three, () -> CHECKS.bad(3, flying + "fill 0 1^;"));
        SCRIPTS.test(three, () -> CHECKS.bad(3, caught + "fill 0 1^;"));
        SCRIPTS.test(three, () -> CHECKS.good(moored + "fill 0 21;"));
        SCRIPTS.test(three, () -> CHECKS.bad(3, moored + "fill 0 22^;"));
        SCRIPTS.test(three, () -> CHECKS.good("street 8;repeat 2(balloon 0 1 1;);fill 0 29;fill 1 21;"));
        SCRIPTS.test(three, () -> CHECKS.bad(3, "street 8;repeat 2(balloon 0 1 1;);fill 0 29;fill 1 22^;"));
    }

    private static void repeatInRepeats() {
        String four = "4, the word \"repeat\" inside two other repeats;";
        SCRIPTS.test(four, () -> CHECKS.good("street 8;repeat 1(repeat 1(gas 1;););"));
        SCRIPTS.test(four, () -> CHECKS.bad(4, "street 8;repeat 1(repeat 1(^repeat 1(gas 1;);););"));
        SCRIPTS.test(four, () -> CHECKS.bad(4, "street 8;repeat 1(repeat 1(gas 1;^repeat"));
        SCRIPTS.test(four, () -> CHECKS.bad(4, "street 8;repeat 1(repeat 1(gas 1;);repeat 1(^repeat 0"));
        SCRIPTS.test(four, () -> CHECKS.good("street 8;repeat 2(repeat 2(gas 1;);repeat 2(gas 1;););repeat 2(repeat 2(gas 1;););"));
        SCRIPTS.test(four, () -> CHECKS.bad(1, "street 8;repeat 1(repeat 1(^repeatx"));
        SCRIPTS.test(four, () -> {
            BalloonPost post = new BalloonPost();
            Checks.run(post, "street 8;repeat 1(repeat 1(oops");
            CHECKS.same("repeats of a script that failed are not open", Checks.run(post, "street 8;repeat 1(repeat 1(gas 1;););"), 0);
        });
    }

    private static void tooManyCommands() {
        String five = "5, the first word of the command that would be the 201st one to be executed (a \"repeat\" itself does not count).";
        SCRIPTS.test(five, () -> CHECKS.good(ALL_COMMANDS));
        SCRIPTS.test(five, () -> CHECKS.bad(5, ALL_COMMANDS + "^leak 1;"));
        SCRIPTS.test(five, () -> CHECKS.bad(5, ALL_COMMANDS + "^leak 0;"));
        SCRIPTS.test(five, () -> CHECKS.bad(5, ALL_COMMANDS + " \n^claim"));
        SCRIPTS.test(five, () -> CHECKS.good(ALL_COMMANDS + "repeat 20(repeat 20(););"));
        SCRIPTS.test(five, () -> CHECKS.bad(5, ALL_COMMANDS + "repeat 2(repeat 2(^gas 1;););"));
        SCRIPTS.test(five, () -> CHECKS.good("street 8;repeat 20(repeat 9(leak 1;);leak 1;);"));
        SCRIPTS.test(five, () -> CHECKS.bad(5, "street 8;repeat 20(repeat 9(leak 1;);leak 1;);^leak 1;"));
        SCRIPTS.test(five, () -> CHECKS.bad(5, "street 8;repeat 20(leak 1;repeat 10(^leak 1;););"));
        SCRIPTS.test(five, () -> {
            BalloonPost post = new BalloonPost();
            CHECKS.same("200 commands", Checks.run(post, ALL_COMMANDS), 0);
            CHECKS.same("the next script may execute 200 again", Checks.run(post, ALL_COMMANDS), 0);
            CHECKS.same("201 commands", Checks.run(post, ALL_COMMANDS + "leak 1;"), -1);
            CHECKS.same("the next script may execute 200 again", Checks.run(post, ALL_COMMANDS), 0);
        });
    }
}
