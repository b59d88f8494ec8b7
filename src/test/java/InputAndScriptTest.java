/** Promises 2 to 4, 24 and 25, and what Terms says of scripts. */
public final class InputAndScriptTest {
    private static final Checks CHECKS = new Checks("InputAndScriptTest");

    public static void main(String[] args) {
        append();
        truncateInput();
        goodScript();
        replacesEverything();
        badScriptChangesNothing();
        tokens();
        grammar();
        ranges();
        things();
        refusals();
        repeats();
        tooManyCommands();
        laterRepetition();
        firstErrorCounts();
        everyCommand();
        endOfTheBuffer();
        scriptsOnOneObject();
        CHECKS.finish();
    }

    // Promise 2
    private static void append() {
        BalloonPost post = new BalloonPost();
        for (int i = 1; i <= 30; i++) {
            CHECKS.same("append " + i, post.append(0, -1, i, 0, 0), 20 * i);
        }
        CHECKS.same("append to 600 bytes", post.append(0, 0, 0, 0, 0), -1);
        CHECKS.same("nothing was appended", post.truncateInput(600), 600);
        post.truncateInput(581);
        CHECKS.same("append to 581 bytes", post.append(0, 0, 0, 0, 0), -1);
        post.truncateInput(580);
        CHECKS.same("append to 580 bytes", post.append(0, 0, 0, 0, 0), 600);
        BalloonPost order = new BalloonPost();
        order.append(0x73747265, 0x65742038, 0x3b676173, 0x20373b20, 0x0a202020);
        CHECKS.same("street 8;gas 7;", order.runScript(), 0);
        CHECKS.same("gas", order.gas(), 57);
        CHECKS.same("undoCount: appending is not a change", new BalloonPost().undoCount(), 0);
    }

    // Promise 3
    private static void truncateInput() {
        BalloonPost post = new BalloonPost();
        CHECKS.throwsArgument("1 of an empty buffer", () -> post.truncateInput(1));
        post.append(0, 0, 0, 0, 0);
        for (int wrong : new int[] {-1, 21, Integer.MIN_VALUE, Integer.MAX_VALUE}) {
            CHECKS.throwsArgument("truncateInput " + wrong, () -> post.truncateInput(wrong));
        }
        CHECKS.same("to the same length", post.truncateInput(20), 20);
        CHECKS.same("to 7", post.truncateInput(7), 7);
        CHECKS.throwsArgument("not back to 8", () -> post.truncateInput(8));
        CHECKS.same("appends behind what is left", post.append(0, 0, 0, 0, 0), 27);
        CHECKS.same("to 0", post.truncateInput(0), 0);
        CHECKS.same("undoCount", post.undoCount(), 0);
    }

    // Promise 4
    private static void goodScript() {
        BalloonPost post = new BalloonPost();
        CHECKS.same("no parcels", Checks.run(post, "street 8;"), 0);
        CHECKS.throwsArgument("the buffer is empty afterwards", () -> post.truncateInput(1));
        CHECKS.same("two parcels", Checks.run(post, "street 30;parcel 1 29 0 5;parcel 1 0 29 6;claim 29 5;"), 2);
        CHECKS.same("streetLength", post.streetLength(), 30);
        CHECKS.same("error kind", post.scriptErrorKind(), 0);
        CHECKS.same("error offset", post.scriptErrorOffset(), -1);
        CHECKS.same("both scripts can be undone", post.undoCount(), 2);
        post.undo();
        post.undo();
        CHECKS.sameText("undone", Checks.stateOf(post), Checks.stateOf(new BalloonPost()));
    }

    private static void replacesEverything() {
        BalloonPost post = Checks.after("street 9;roof 1 1;tree 1 1;gust east 3;leak 9;parcel 9 1 0 1;parcel 1 0 8 2;balloon 1 9 9;gas 200;fill 0 1;"
                + "balloon 0 2 2;tie 1 1;launch 1;hours 3;claim 1 1;");
        CHECKS.same("next script", Checks.run(post, "street 9;"), 0);
        CHECKS.sameText("the same as on a new object", Checks.stateOf(post), Checks.stateOf(Checks.after("street 9;")));
        CHECKS.same("hour", post.hour(), 0);
        CHECKS.same("gas", post.gas(), 50);
        CHECKS.same("takings", post.takings(), 0);
        CHECKS.same("gustAt 0", post.gustAt(0), 0);
        CHECKS.same("roof 1", post.roof(1), 0);
        CHECKS.same("tree 1", post.tree(1), 0);
        CHECKS.same("leak", post.setLeak(1), 3);
        BalloonPost paid = Checks.after("street 9;parcel 9 1 0 1;balloon 1 30 9;tie 0 0;gust west 1;launch 0;hours 1;moor 0;untie 0;claim 0 1;");
        CHECKS.same("takings", paid.takings(), 9);
        Checks.run(paid, "street 8;");
        CHECKS.same("takings", paid.takings(), 0);
        CHECKS.same("deliveredCount", paid.deliveredCount(), 0);
        CHECKS.same("violations", paid.violations(), 0);
    }

    private static void badScriptChangesNothing() {
        BalloonPost post = new BalloonPost();
        post.passHours(1);
        String before = Checks.stateOf(post);
        CHECKS.same("bad script", Checks.run(post, "street 8;gas 5;roof 0 9;hours 24;tie 0 0;"), -1);
        CHECKS.sameText("state", Checks.stateOf(post), before);
        CHECKS.same("undoCount", post.undoCount(), 1);
        CHECKS.same("kind", post.scriptErrorKind(), 2);
        CHECKS.same("offset", post.scriptErrorOffset(), 37);
        CHECKS.throwsArgument("the buffer is empty", () -> post.truncateInput(1));
        post.undo();
        CHECKS.same("undo leaves the kind", post.scriptErrorKind(), 2);
        CHECKS.same("undo leaves the offset", post.scriptErrorOffset(), 37);
        Checks.run(post, "street 8;");
        CHECKS.same("a good script: no kind", post.scriptErrorKind(), 0);
        CHECKS.same("a good script: no offset", post.scriptErrorOffset(), -1);
        post.undo();
        CHECKS.same("undo does not bring the error back", post.scriptErrorKind(), 0);
    }

    private static void tokens() {
        CHECKS.good(" \n street\n\n8 ;  \n gas\n5;\n ");
        CHECKS.good("street8;roof1 2;gust east3;");
        CHECKS.good("street 008;roof 000 09;");
        CHECKS.bad(1, "^");
        CHECKS.bad(1, "   ^");
        CHECKS.bad(1, "street^\t8;");
        CHECKS.bad(1, "street ^0008;");
        CHECKS.bad(1, "street ^1000;");
        CHECKS.bad(1, "street ^99999999999999999999;");
        CHECKS.bad(1, "street 8;roof ^0000 1;");
        CHECKS.bad(1, "^Street 8;");
        CHECKS.bad(1, "^strEet 8;");
        CHECKS.bad(1, "street 8;^,");
        CHECKS.bad(1, "street 8;^\u00e9");
        CHECKS.bad(1, "street 8;^\0");
        CHECKS.bad(1, "street 8;^roofs 1 2;");
        CHECKS.bad(1, "street 8;^roo 1 2;");
        CHECKS.bad(1, "street 8;roof 1^-2;");
        CHECKS.bad(1, "street 8;roof 1^x2;");
        CHECKS.bad(1, "street 8;^gaseast 2;");
        CHECKS.bad(1, "street 8;gas^\r2;");
    }

    private static void grammar() {
        CHECKS.bad(1, "^gas 5;street 8;");
        CHECKS.bad(1, "^8;");
        CHECKS.bad(1, "street ^;");
        CHECKS.bad(1, "street 8 ^9;");
        CHECKS.bad(1, "street 8 ^");
        CHECKS.bad(1, "street 8;^;");
        CHECKS.bad(1, "street 8;^8;");
        CHECKS.bad(1, "street 8;^(");
        CHECKS.bad(1, "street 8;^);");
        CHECKS.bad(1, "street 8;^street 8;");
        CHECKS.bad(1, "street 8;^east 8;");
        CHECKS.bad(1, "street 8;roof ^;");
        CHECKS.bad(1, "street 8;roof ^roof 1;");
        CHECKS.bad(1, "street 8;roof 1^;");
        CHECKS.bad(1, "street 8;roof 1 2 ^3;");
        CHECKS.bad(1, "street 8;gust ^2;");
        CHECKS.bad(1, "street 8;gust ^north 2;");
        CHECKS.bad(1, "street 8;gust east ^west 2;");
        CHECKS.bad(1, "street 8;repeat ^(gas 1;);");
        CHECKS.bad(1, "street 8;repeat 2 ^gas 1;");
        CHECKS.bad(1, "street 8;repeat 2^;");
        CHECKS.bad(1, "street 8;repeat 2(gas 1;);^;");
        CHECKS.bad(1, "street 8;repeat 2(gas 1;) ^gas 1;");
        CHECKS.bad(1, "street 8;repeat 2(gas 1^);");
        CHECKS.bad(1, "street^");
        CHECKS.bad(1, "street 8^");
        CHECKS.bad(1, "street 8;gas^");
        CHECKS.bad(1, "street 8;gas 5^");
        CHECKS.bad(1, "street 8;gas 5   ^");
        CHECKS.bad(1, "street 8;repeat^");
        CHECKS.bad(1, "street 8;repeat 2^");
        CHECKS.bad(1, "street 8;repeat 2(^");
        CHECKS.bad(1, "street 8;repeat 2(gas 1;^");
        CHECKS.bad(1, "street 8;repeat 2(gas 1;)^");
        CHECKS.bad(1, "street 8;repeat 2(gas 1;)\n ^");
    }

    private static void ranges() {
        CHECKS.bad(2, "street ^7;");
        CHECKS.bad(2, "street ^31;");
        CHECKS.good("street 30;roof 29 9;");
        edges("roof ", "0 0;", "7 9;", null, "8 0;");
        edges("roof 0 ", "0;", "9;", null, "10;");
        edges("tree ", "0 0;", "7 9;", null, "8 0;");
        edges("tree 0 ", "0;", "9;", null, "10;");
        edges("gust east ", "0;", "3;", null, "4;");
        edges("gust west ", "0;", "3;", null, "4;");
        edges("leak ", "1;", "9;", "0;", "10;");
        edges("balloon ", "0 1 1;", "7 1 1;", null, "8 1 1;");
        edges("balloon 0 ", "1 1;", "30 1;", "0 1;", "31 1;");
        edges("balloon 0 1 ", "1;", "9;", "0;", "10;");
        edges("parcel ", "1 0 1 0;", "9 0 1 0;", "0 0 1 0;", "10 0 1 0;");
        edges("parcel 1 ", "0 1 0;", "7 1 0;", null, "8 1 0;");
        edges("parcel 1 7 ", "0 0;", "6 0;", "7 0;", "8 0;");
        edges("parcel 1 0 1 ", "0;", "99;", null, "100;");
        edges("balloon 0 1 1;fill 0 ", "1;", "29;", "0;", "30;");
        edges("gas ", "1;", "200;", "0;", "201;");
        edges("hours ", "1;", "24;", "0;", "25;");
        edges("repeat ", "1();", "20();", "0();", "21();");
    }

    private static void edges(String start, String least, String most, String under, String over) {
        String head = "street 8;" + start;
        CHECKS.good(head + least);
        CHECKS.good(head + most);
        if (under != null) {
            CHECKS.bad(2, head + "^" + under);
        }
        CHECKS.bad(2, head + "^" + over);
    }

    private static void things() {
        String head = "street 8;balloon 0 9 9;parcel 1 0 1 7;";
        CHECKS.bad(2, head + "tie ^1 0;");
        CHECKS.bad(2, head + "tie 0 ^1;");
        CHECKS.bad(2, head + "untie ^1;");
        CHECKS.bad(2, head + "launch ^1;");
        CHECKS.bad(2, head + "moor ^1;");
        CHECKS.bad(2, head + "free ^1;");
        CHECKS.bad(2, head + "fill ^1 1;");
        CHECKS.bad(2, head + "claim ^8 7;");
        CHECKS.bad(2, head + "claim 1 ^7;");
        CHECKS.bad(2, head + "claim 0 ^8;");
        CHECKS.bad(2, head + "claim 0 ^999;");
        CHECKS.bad(2, head + "tie 0 0;claim 0 ^7;");
        CHECKS.bad(2, head + "claim 0 7;claim 0 ^7;");
        CHECKS.bad(2, "street 8;tie ^0 0;");
        CHECKS.good(head + "claim 0 7;");
    }

    private static void refusals() {
        CHECKS.good("street 8;repeat 8(balloon 0 9 9;);");
        CHECKS.bad(3, "street 8;repeat 8(balloon 0 9 9;);balloon 0 9 9^;");
        CHECKS.good("street 8;repeat 12(gust east 1;);");
        CHECKS.bad(3, "street 8;repeat 12(gust east 1;);gust west 0^;");
        CHECKS.good("street 8;repeat 16(parcel 1 0 1 7;claim 0 7;);");
        CHECKS.bad(3, "street 8;repeat 16(parcel 1 0 1 7;claim 0 7;);parcel 1 0 1 7^;");
        CHECKS.bad(3, "street 8;parcel 1 0 1 7;parcel 1 2 1 7 ^;");
        String head = "street 8;balloon 0 3 9;balloon 1 9 9;parcel 3 0 1 7;parcel 2 0 1 8;";
        CHECKS.bad(3, head + "tie 0 0^;");
        CHECKS.bad(3, head + "tie 1 1^;");
        CHECKS.bad(3, head + "untie 0^;");
        CHECKS.bad(3, head + "moor 0^;");
        CHECKS.bad(3, head + "free 0^;");
        CHECKS.bad(3, head + "launch 0;launch 0^;");
        CHECKS.bad(3, head + "tree 0 3;launch 0^;");
        CHECKS.bad(3, head + "launch 0;fill 0 1^;");
        CHECKS.bad(3, head + "fill 0 28^;");
        CHECKS.bad(3, head + "fill 0 27;balloon 0 1 1;fill 2 24 \n^;");
        CHECKS.good(head + "fill 0 27;balloon 0 1 1;fill 2 23;");
        CHECKS.bad(3, head + "tie 1 0;launch 0;untie 1^;");
        CHECKS.bad(3, "street 8;repeat 4(gas 200;);gas 150^;");
        CHECKS.good("street 8;repeat 4(gas 200;);gas 149;");
        CHECKS.bad(3, "street 8;repeat 20(hours 24;hours 24;);hours 24;hours 16^;");
        CHECKS.good("street 8;repeat 20(hours 24;hours 24;);hours 24;hours 15;");
    }

    private static void repeats() {
        CHECKS.same("repeat 3", Checks.after("street 8;repeat 3(gas 2;);").gas(), 56);
        CHECKS.same("repeat in a repeat", Checks.after("street 8;repeat 3 ( gas 1; repeat 4 ( gas 2; ) ; ) ;gas 1;").gas(), 50 + 3 * 9 + 1);
        CHECKS.same("empty", Checks.after("street 8;repeat 20(repeat 20(););gas 1;").gas(), 51);
        CHECKS.same("two in one", Checks.after("street 8;repeat 2(repeat 2(gas 1;);repeat 3(gas 1;););").gas(), 60);
        CHECKS.bad(4, "street 8;repeat 1(repeat 1(^repeat 1(gas 1;);););");
        CHECKS.bad(4, "street 8;repeat 1(repeat 1(^repeat");
        CHECKS.bad(4, "street 8;repeat 1(repeat 1(gas 1;gas 1;^repeat 0");
        CHECKS.bad(1, "street 8;repeat 1(repeat 1(^repeats");
        CHECKS.bad(1, "street 8;repeat 1(repeat 1(gas ^repeat");
        StringBuilder longest = new StringBuilder("street 8;repeat 20(");
        while (longest.length() + 12 <= 597) {
            longest.append("repeat 20();");
        }
        CHECKS.good(longest.append(");").toString());
    }

    private static void tooManyCommands() {
        String full = "street 8;repeat 20(repeat 10(leak 1;););";
        CHECKS.good(full);
        CHECKS.good(full + "repeat 20();");
        CHECKS.bad(5, full + "^leak 1;");
        CHECKS.bad(5, full + "^leak 0");
        CHECKS.bad(5, full + "^claim");
        CHECKS.bad(1, full + "^east");
        CHECKS.bad(1, full + "^leaks 1;");
        CHECKS.bad(1, full + "^7");
        CHECKS.bad(1, full + "^)");
        CHECKS.bad(5, full + "repeat 1(^leak 1;);");
        CHECKS.bad(2, full + "repeat ^0(leak 1;);");
        CHECKS.bad(4, full + "repeat 1(repeat 1(^repeat 1(leak 1;););)");
        CHECKS.bad(5, "street 8;repeat 20(repeat 11(^leak 1;););");
        CHECKS.bad(5, "street 8;repeat 20(repeat 20(^leak 1;);hours 1;);");
        CHECKS.bad(5, "street 8;repeat 20(repeat 5(leak 1;leak 1;^hours 1;););");
    }

    private static void laterRepetition() {
        CHECKS.bad(3, "street 8;repeat 5(gas 200^;);");
        CHECKS.bad(2, "street 8;parcel 1 0 1 7;repeat 2(gas 1;claim 0 ^7;);");
        CHECKS.bad(3, "street 8;repeat 2(parcel 1 0 1 7^;);");
        CHECKS.bad(3, "street 8;repeat 5(gas 200^;)oops");
        CHECKS.bad(1, "street 8;repeat 4(gas 200;)^oops");
        CHECKS.bad(2, "street 8;repeat 2(parcel 1 0 1 7;claim 0 7;);claim 0 ^7;");
    }

    private static void firstErrorCounts() {
        CHECKS.bad(2, "street 8;roof ^8;");
        CHECKS.bad(2, "street 8;roof ^9 10 11;");
        CHECKS.bad(2, "street ^7 roof");
        CHECKS.bad(2, "street 8;roof 0 0;tie ^0;");
        CHECKS.bad(1, "street 8;balloon 0 9 9^oops");
        CHECKS.bad(3, "street 8;balloon 0 9 9;moor 0^;oops");
    }

    private static void everyCommand() {
        BalloonPost post = Checks.after("street 10;roof 5 4;tree 6 7;gust east 2;gust west 1;leak 4;balloon 3 20 6;balloon 2 8 3;parcel 4 3 9 1;"
                + "parcel 2 2 0 2;parcel 1 3 5 3;tie 0 0;tie 2 0;untie 2;fill 1 5;gas 12;claim 2 2;launch 0;launch 1;moor 1;hours 1;");
        int[] got = {post.streetLength(), post.roof(5), post.tree(6), post.gustAt(0), post.gustAt(1), post.balloonCount(), post.parcelCount(),
            post.placeOf(0), post.lift(0), post.load(0), post.stateOf(0), post.placeOf(1), post.lift(1), post.stringLength(1), post.stateOf(1),
            post.gas(), post.parcelState(0), post.parcelState(1), post.parcelState(2), post.hour(), post.takings(), post.violations()};
        int[] want = {10, 4, 7, 2, -1, 2, 3, 5, 20, 4, 1, 2, 13, 3, 0, 57, 1, 2, 0, 1, 0, 0};
        for (int i = 0; i < want.length; i++) {
            CHECKS.same("every command, value " + i, got[i], want[i]);
        }
        CHECKS.same("leak", post.setLeak(1), 4);
        BalloonPost freed = Checks.after("street 8;tree 1 9;gust east 1;balloon 0 9 9;launch 0;hours 1;free 0;");
        CHECKS.same("free", freed.lift(0), 7);
    }

    /** What was cut off, and what lies behind the last byte of a full buffer, is no part of the script. */
    private static void endOfTheBuffer() {
        cutOff("street 8;gas 1|2;", 14);
        cutOff("street 8;ga|s 12;", 9);
        cutOff("street 8;gas| 12;", 12);
        cutOff("street 8;gas |  12;", 13);
        cutOff("street 8;gas 12|;", 15);
        cutOff("street 8;| gas 12;", -1);
        String blanks = " ".repeat(600 - "street 8;gas 1".length());
        CHECKS.good("street 8;" + blanks + "gas1;");
        CHECKS.good("street 8;gas 1" + blanks.substring(1) + ";");
        CHECKS.good("street 8;leak1;" + blanks.substring(1));
        CHECKS.bad(1, "street 8;gas " + blanks + "1^");
        CHECKS.bad(1, "street 8;gas 1" + blanks + "^");
        CHECKS.bad(1, "street 8; " + blanks + "^east");
    }

    /** Only what stands in front of the stroke is executed. */
    private static void cutOff(String marked, int offset) {
        BalloonPost post = new BalloonPost();
        Checks.feed(post, marked.replace("|", ""));
        post.truncateInput(marked.indexOf('|'));
        CHECKS.same(marked + ": answer", post.runScript(), offset < 0 ? 0 : -1);
        CHECKS.same(marked + ": offset", post.scriptErrorOffset(), offset);
    }

    /** A script begins afresh, however the one before it ended. */
    private static void scriptsOnOneObject() {
        BalloonPost post = new BalloonPost();
        CHECKS.same("ends in a repeat", Checks.run(post, "street 8;repeat 2(repeat 2(gas"), -1);
        CHECKS.same("no repeat is open", Checks.run(post, "street 8;)"), -1);
        CHECKS.same("offset", post.scriptErrorOffset(), 9);
        CHECKS.same("ends in a repeat", Checks.run(post, "street 8;repeat 2(repeat 2(gas"), -1);
        CHECKS.same("two repeats may be open", Checks.run(post, "street 8;repeat 2(repeat 2(gas 1;););"), 0);
        CHECKS.same("gas", post.gas(), 54);
        CHECKS.same("200 commands", Checks.run(post, "street 8;repeat 20(repeat 10(leak 1;););"), 0);
        CHECKS.same("200 commands again", Checks.run(post, "street 8;repeat 20(repeat 10(leak 1;););"), 0);
        Checks.run(post, "street 8;leak 1;balloon 3 9 9;parcel 8 3 4 5;tie 0 0;launch 0;hours 1;parcel 1 3 4 6;");
        CHECKS.same("it lost lift", post.violations(), 0);
        Checks.run(post, "street 8;balloon 0 5 9;");
        CHECKS.same("what the balloons before it lost is forgotten", post.violations(), 0);
        CHECKS.same("parcels before it lie nowhere", post.parcelsAt(3), 0);
        CHECKS.same("parcels before it have no numbers", post.parcelWith(5), -1);
        CHECKS.same("the balloon carries none of them", post.parcelsOf(0), 0);
    }
}
