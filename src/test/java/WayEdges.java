import java.math.BigInteger;

/** Edges of days and ways, and of what follows from them. */
final class WayEdges {
    private static final BigInteger TIMES = BigInteger.valueOf(1664525);
    private static final BigInteger AND = BigInteger.valueOf(1013904223);
    private static final BigInteger WITHOUT_SIGN = BigInteger.TWO.pow(31);

    private final Document document;

    WayEdges(Document document) {
        this.document = document;
    }

    void all() {
        days();
        way();
        shake();
        shakeByTurns();
        wreck();
        led();
        pay();
        worthIt();
        found();
        foundOrder();
        mean();
        leastTerms();
        look();
        rivals();
        close();
        lots();
        lotsOfAll();
        draw();
        drawsInTurn();
    }

    private void due(String call, long got, long want) {
        document.due(call, got, want);
    }

    private void days() {
        document.says("DAYS from a SQUARE to another one, fewest; -9;");
        document.says("`int days(int from, int to)`: DAYS; -9. -1 either.");
        HeWreckedHimself x = new HeWreckedHimself();
        due("days(0, 35)", x.days(0, 35), 10);
        due("days(35, 0)", x.days(35, 0), 10);
        due("to itself", x.days(35, 35), 0);
        due("days(0, 36)", x.days(0, 36), -1);
        due("days(36, 0)", x.days(36, 0), -1);
        due("days(0, -1)", x.days(0, -1), -1);
        due("days(-1, 0)", x.days(-1, 0), -1);
        x = Checks.told("ks01;kr06;ks35;");
        due("out of what is shut in", x.days(0, 7), -9);
        due("into what is shut in", x.days(7, 0), -9);
        due("within it", x.days(0, 0), 0);
        due("to a shoal", x.days(7, 1), -9);
        due("from a shoal", x.days(1, 7), -9);
        due("from a shoal to itself", x.days(35, 35), -9);
        due("from a reef to itself", x.days(6, 6), -9);
        x.set(1, 3);
        due("over a reef then", x.days(0, 7), 4);
        due("from a reef to itself then", x.days(6, 6), 0);
    }

    private void way() {
        document.says("the first WAY of the first such way by WAYS (-9 none).");
        document.says("`int way(int from, int to)`: The first WAY; -9. -1 either.");
        HeWreckedHimself x = new HeWreckedHimself();
        due("to itself", x.way(14, 14), -9);
        due("up before left", x.way(14, 7), 0);
        due("up before right", x.way(14, 9), 0);
        due("left before down", x.way(14, 19), 1);
        due("right before down", x.way(14, 21), 2);
        due("down alone", x.way(14, 32), 3);
        due("way(0, 36)", x.way(0, 36), -1);
        due("way(36, 0)", x.way(36, 0), -1);
        x = Checks.told("ks01;ks06;kf08;kf13;");
        due("none out of what is shut in", x.way(0, 35), -9);
        due("none to a shoal", x.way(7, 1), -9);
        due("none from a shoal", x.way(1, 7), -9);
        due("of two as long the first", x.way(7, 14), 2);
        due("of one way as long as another up first", Checks.told("kc06;").way(12, 0), 0);
        due("the fewest days, not the fewest squares", Checks.told("kc00;kc06;").way(12, 0), 2);
    }

    private void shake() {
        document.says("SHAKE: fewest DAYS from HOME to a SQUARE by a way that turns (comes by one WAY, goes on by another) "
            + "in FOG at least once; -9.");
        document.says("`int shake(int to)`: SHAKE; -9. -1.");
        HeWreckedHimself x = new HeWreckedHimself();
        due("without FOG", x.shake(0), -9);
        due("shake(-1)", x.shake(-1), -1);
        due("shake(36)", x.shake(36), -1);
        x = Checks.told("kf35;");
        due("to HOME by the farthest FOG", x.shake(0), 9 + 2 + 10);
        due("to the FOG itself", x.shake(35), 9 + 2 + 1 + 2);
        due("past its turn", x.shake(29), 9 + 2 + 1);
        x = Checks.told("ks01;ks06;kf07;kf00;");
        due("FOG that can not be come to", x.shake(0), -9);
        x = Checks.told("kf01;ks35;vs0611;");
        due("to a shoal", x.shake(35), -9);
        due("where one can not come", x.shake(12), -9);
        due("back in it", x.shake(0), 3);
    }

    private void shakeByTurns() {
        HeWreckedHimself x = Checks.told("vs0611;kf05;");
        due("FOG at the end of a corridor", x.shake(5), 4 + 2 + 1 + 2);
        due("behind it", x.shake(4), 4 + 2 + 1);
        x = Checks.told("vs0611;kf00;");
        due("FOG on HOME is none before he comes to it", x.shake(1), 1 + 2 + 1);
        due("and HOME itself", x.shake(0), 1 + 2 + 1 + 2);
        x = Checks.told("kf01;");
        due("straight through is no turn", x.shake(2), 2 + 1 + 2);
        due("a turn of a right angle", x.shake(7), 3);
        int[] beside = {8, 13, 15, 20};
        for (int fog : beside) {
            x = Checks.told("h14;kf" + (fog < 10 ? "0" : "") + fog + ";");
            due("back to HOME from FOG on " + fog, x.shake(14), 3);
            due("FOG on " + fog + " and straight on", x.shake(2 * fog - 14), 5);
        }
        x = Checks.told("vf0035;");
        due("a second turn is no more", x.shake(14), 8);
        due("a corner is a turn, too", x.shake(35), 20);
    }

    private void wreck() {
        document.says("WRECK: fewest DAYS from HOME to a SQUARE beside a SHOAL (one that can not be sailed by DRAUGHT); "
            + "the least such SQUARE; -9.");
        document.says("`int wreck(int what)`: WRECK: DAYS (what 0; -9), the SQUARE (1; -9). -2.");
        HeWreckedHimself x = new HeWreckedHimself();
        due("DAYS without SHOAL", x.wreck(0), -9);
        due("SQUARE without SHOAL", x.wreck(1), -9);
        due("wreck(-1)", x.wreck(-1), -2);
        due("wreck(2)", x.wreck(2), -2);
        x.turnTo(35, 1);
        due("DAYS to beside the last", x.wreck(0), 9);
        due("of several the least", x.wreck(1), 29);
        x.turnTo(35, 2);
        due("a REEF by DRAUGHT 4", x.wreck(0), 9);
        x.set(1, 3);
        due("DAYS by DRAUGHT 3", x.wreck(0), -9);
        due("SQUARE by DRAUGHT 3", x.wreck(1), -9);
        x = Checks.told("ks01;");
        due("DAYS at HOME", x.wreck(0), 0);
        due("SQUARE 0", x.wreck(1), 0);
        x = Checks.told("ks05;h06;");
        due("a row's end is not beside the next row", x.wreck(0), 5);
        due("its SQUARE", x.wreck(1), 4);
        x = Checks.told("vs1217;h35;");
        due("on HOME's side of the shoals", x.wreck(1), 23);
    }

    private void led() {
        document.says("LED: DAYS more than the fewest by which SHAKE comes to a SQUARE; -9.");
        document.says("`int led(int to)`: LED; -9. -1.");
        HeWreckedHimself x = new HeWreckedHimself();
        due("without FOG", x.led(35), -9);
        due("led(-1)", x.led(-1), -1);
        due("led(36)", x.led(36), -1);
        x.turnTo(1, 3);
        due("HOME", x.led(0), 3);
        due("one more", x.led(14), 1);
        x = Checks.told("vf0035;");
        due("none more when all is FOG", x.led(7), 0);
        due("more when it is straight on", x.led(2), 4);
        x = Checks.told("vs0611;kf01;");
        due("to a shoal", x.led(6), -9);
        due("where one can not come", x.led(12), -9);
    }

    private void duePay(String text, int days, int pay) {
        HeWreckedHimself x = Checks.told(text);
        due("wreck(0) of " + text, x.wreck(0), days);
        due("pay(0) of " + text, x.pay(0), pay);
    }

    private void pay() {
        document.says("PAY: CARGO and 10 times BEHIND, less WRECK's DAYS (0 at least; -9, if there is none);");
        document.says("`int pay(int what)`: PAY (what 0; -9), whether (1; -9). -2.");
        duePay("c0000;d41;ks35;", 9, 1);
        duePay("c0000;d41;ks35;kf29;kf34;", 10, 0);
        duePay("c0000;d41;ks35;kf29;kf34;kf23;kf28;kf33;", 11, 0);
        duePay("c0100;d41;ks35;kf29;kf34;kf23;kf28;kf33;", 11, 0);
        duePay("c0200;d41;ks35;kf29;kf34;kf23;kf28;kf33;", 11, 1);
        duePay("c9900;d49;ks01;", 0, 189);
        duePay("c9900;d49;", -9, -9);
        HeWreckedHimself x = new HeWreckedHimself();
        due("pay(-1)", x.pay(-1), -2);
        due("pay(2)", x.pay(2), -2);
    }

    private void worthIt() {
        document.says("whether that is worth it: SECRET times how many are LEFT is more: 1, 0 (-9).");
        HeWreckedHimself x = new HeWreckedHimself();
        due("without WRECK", x.pay(1), -9);
        Checks.tell(x, "ks01;c0100;d41;l00350;l00009;l01011;l02021;l03031;");
        int[] secrets = {0, 1, 2, 3, 99};
        int[] worth = {0, 0, 0, 1, 1};
        due("pay of 11, four are left", x.pay(0), 11);
        for (int i = 0; i < secrets.length; i++) {
            x.set(4, secrets[i]);
            due("SECRET " + secrets[i], x.pay(1), worth[i]);
        }
        x.make(0, 0);
        x.set(3, 89);
        x.set(4, 33);
        due("99 is not more than 99", x.pay(1), 0);
        x.set(3, 88);
        due("99 is more than 98", x.pay(1), 1);
        Checks.tell(x, "l00350;");
        due("nothing left", x.pay(1), 0);
        x = Checks.told("vf0034;ks35;d41;c0000;l00350;");
        due("nothing is not more than a pay of 0", x.pay(1), 0);
        x.make(35, 1);
        due("SECRET 0 is not more than a pay of 0", x.pay(1), 0);
        x.set(4, 1);
        due("SECRET 1 is", x.pay(1), 1);
    }

    private void found() {
        document.says("`int found(int square)`: FOUND; -9. -1; -3 it is not LEFT.");
        HeWreckedHimself x = Checks.told("l00350;l35351;");
        due("found(35)", x.found(35), 10);
        due("found(34)", x.found(34), -3);
        due("found(0)", x.found(0), -3);
        due("found(-1)", x.found(-1), -1);
        due("found(36)", x.found(36), -1);
        x.turnTo(35, 1);
        due("a shoal that is left", x.found(35), -9);
        x.make(35, 0);
        due("nothing left", x.found(35), -3);
        x = Checks.told("ks29;ks34;");
        due("shut in by shoals", x.found(35), -9);
        due("REFUSALS by -9", x.count(13), 0);
    }

    private void foundOrder() {
        document.says("FOUND: a searcher goes from HOME to SQUARES LEFT that he can come to in the order of fewest DAYS from HOME "
            + "(of several the least), and back each time (in as many): DAYS behind which he comes to a SQUARE first; -9;");
        HeWreckedHimself x = Checks.told("l00350;l01011;l06061;l07079;l00001;");
        due("HOME", x.found(0), 0);
        due("the first of 1 day", x.found(1), 1);
        due("the second of 1 day", x.found(6), 3);
        due("of 2 days", x.found(7), 6);
        x.make(0, 0);
        due("HOME costs nothing", x.found(7), 6);
        x.turnTo(1, 1);
        due("who can't be come to costs nothing", x.found(7), 4);
        x = Checks.told("l00350;h06;l00001;l12121;l18181;kc00;");
        due("12 by 1 day", x.found(12), 1);
        due("18 by 2 days", x.found(18), 2 + 2);
        due("0 by 3 days up, and back in as many", x.found(0), 2 + 4 + 3);
        x.make(30, 1);
        due("30 by 4 days behind it", x.found(30), 2 + 4 + 6 + 4);
    }

    private void mean() {
        document.says("the MEAN over LEFT by LIKELY: a fraction (0 by 1, if none can be come to; those that can not do not count).");
        document.says("`long mean(int part)`: FOUND on the MEAN, part 0 above, 1 below the line. Refused as told: -2.");
        dueMean("l00350;", 0, 1);
        dueMean("ks35;l00350;l35359;", 0, 1);
        dueMean("ks35;l00350;l35359;l34341;", 9, 1);
        dueMean("ks35;l00350;l35359;l34341;l29293;", 27, 2);
        HeWreckedHimself x = new HeWreckedHimself();
        due("mean(2)", x.mean(2), 4000000000000000002L);
        due("mean(-1)", x.mean(-1), 4000000000000000002L);
        due("REFUSALS -2", x.count(12), 2);
    }

    private void dueMean(String text, long above, long below) {
        HeWreckedHimself x = Checks.told(text);
        due("mean(0) of " + text, x.mean(0), above);
        due("mean(1) of " + text, x.mean(1), below);
    }

    private void leastTerms() {
        document.says("Fractions are told in least terms; 0 as 0 by 1.");
        dueMean("l00350;l00009;", 0, 1);
        dueMean("l00350;l00007;l01017;", 1, 2);
        dueMean("l00350;l00003;l01019;", 3, 4);
        dueMean("l00350;l01019;", 1, 1);
        dueMean("l00350;l00002;l01013;", 3, 5);
        dueMean("l00350;l02029;l00003;", 3, 2);
        dueMean("h35;l00350;l00001;", 10, 1);
        dueMean("h35;l00350;l00009;l35351;", 9, 1);
        // In the open sea 2 d squares of d days from the nearest on are found one behind another.
        long above = 0;
        long gone = 0;
        for (int days = 0; days <= 10; days++) {
            for (int i = 0; i < 6 - Math.abs(5 - days); i++) {
                above += gone + days;
                gone += 2 * days;
            }
        }
        long common = BigInteger.valueOf(above).gcd(BigInteger.valueOf(36)).longValue();
        dueMean("l00351;", above / common, 36 / common);
        dueMean("l00359;", above / common, 36 / common);
    }

    private void look() {
        document.says("LOOK: the SQUARE LEFT with most LIKELY by DAYS from HOME and 1 (as fractions), of several the least; -9.");
        document.says("`int look()`: LOOK; -9.");
        due("nothing left", Checks.told("l00350;").look(), -9);
        due("none to come to", Checks.told("ks35;l00350;l35359;").look(), -9);
        due("the last", Checks.told("ks34;l00350;l35351;").look(), 35);
        due("nine at 8 days as one at HOME", Checks.told("l00350;l29299;l33339;l00001;").look(), 0);
        due("nine at 7 days is more", Checks.told("l00350;l29299;l32329;l00001;").look(), 32);
        due("2 by 2 and 3 by 3 and 1 by 1", Checks.told("h35;l00350;l35351;l34342;l33333;").look(), 33);
        due("5 by 3 is more than 8 by 5", Checks.told("l00350;l02025;l04048;").look(), 2);
        due("5 by 4 is less than 8 by 6", Checks.told("l00350;l03035;l05058;").look(), 5);
        due("REFUSALS by -9", Checks.told("l00350;").count(13), 0);
    }

    private void rivals() {
        document.says("RIVALS: two searchers start from two SQUARES at once, to a third: 0 the first is there sooner, 1 the other, "
            + "2 at once, -9 neither can.");
        document.says("`int rivals(int one, int other, int to)`: RIVALS. -1 any.");
        HeWreckedHimself x = Checks.told("ks01;ks06;");
        due("both there", x.rivals(0, 0, 0), 2);
        due("one there", x.rivals(35, 34, 35), 0);
        due("the other there", x.rivals(34, 35, 35), 1);
        due("as far from both sides", x.rivals(33, 35, 34), 2);
        due("a day less", x.rivals(33, 35, 33), 0);
        due("the first alone can", x.rivals(35, 0, 7), 0);
        due("the other alone can", x.rivals(0, 35, 7), 1);
        due("neither can", x.rivals(0, 0, 7), -9);
        due("to a shoal neither can", x.rivals(0, 7, 1), -9);
        due("from a shoal to itself neither can", x.rivals(1, 1, 1), -9);
        due("rivals(36, 0, 0)", x.rivals(36, 0, 0), -1);
        due("rivals(0, 36, 0)", x.rivals(0, 36, 0), -1);
        due("rivals(0, 0, 36)", x.rivals(0, 0, 36), -1);
        due("rivals(-1, 0, 0)", x.rivals(-1, 0, 0), -1);
        due("rivals(0, -1, 0)", x.rivals(0, -1, 0), -1);
        due("rivals(0, 0, -1)", x.rivals(0, 0, -1), -1);
    }

    private void dueClose(String text, int home, int squares) {
        HeWreckedHimself x = Checks.told(text);
        due("close(0) of " + text, x.close(0), home);
        due("close(1) of " + text, x.close(1), squares);
    }

    private void close() {
        document.says("CLOSE: the HOME (one can be there) by which most SQUARES can be come to in BEHIND DAYS, of several the least; "
            + "how many.");
        document.says("`int close(int what)`: CLOSE: the HOME (what 0), how many (1). -2.");
        dueClose("d41;", 7, 5);
        dueClose("d42;", 14, 13);
        dueClose("d49;", 1, 36);
        dueClose("vs0135;", 0, 1);
        dueClose("h35;vs0034;", 35, 1);
        dueClose("h35;vs0033;d41;", 34, 2);
        dueClose("h35;vs0033;kf34;d41;", 34, 2);
        dueClose("h34;vs0033;kf35;d41;", 35, 2);
        dueClose("h34;vs0033;kf35;d42;", 34, 2);
        dueClose("d41;vf0035;", 0, 1);
        HeWreckedHimself x = new HeWreckedHimself();
        due("close(-1)", x.close(-1), -2);
        due("close(2)", x.close(2), -2);
        x.close(0);
        due("HOME stays", x.count(2), 0);
    }

    private void lots() {
        document.says("`int lots(int n, int z, int what)`: LOTS: FOUND together (what 0), the greatest (1). "
            + "-4; -6 20; -2; -3 none LEFT.");
        HeWreckedHimself x = Checks.told("l00350;l35351;");
        due("lots(1, 0, 0)", x.lots(1, 0, 0), 10);
        due("lots(20, 0, 0)", x.lots(20, 0, 0), 200);
        due("lots(20, 0, 1)", x.lots(20, 0, 1), 10);
        due("lots(0, 0, 0)", x.lots(0, 0, 0), -4);
        due("lots(21, 0, 0)", x.lots(21, 0, 0), -6);
        due("lots(1, 0, 2)", x.lots(1, 0, 2), -2);
        due("lots(1, 0, -1)", x.lots(1, 0, -1), -2);
        x.make(35, 0);
        due("none LEFT", x.lots(1, 0, 0), -3);
    }

    private void lotsOfAll() {
        document.says("LOTS with a seed z: n seas (1 .. 20), the islands on the DRAW below all WEIGHT (by LIKELY, by SQUARES): "
            + "FOUND of all together (-9: 99); the greatest.");
        HeWreckedHimself x = Checks.told("ks35;l00350;l35353;");
        due("who can't be come to, once", x.lots(1, 5, 0), 99);
        due("twenty times", x.lots(20, 5, 0), 1980);
        due("the greatest", x.lots(20, 5, 1), 99);
        Checks.tell(x, "l00009;");
        int zeros = 0;
        for (int times = 1; times <= 20; times++) if (draw(5, times, 12) < 9) zeros++;
        due("99 and 0 together", x.lots(20, 5, 0), 99 * (20 - zeros));
        due("both were drawn", zeros > 0 && zeros < 20 ? 1 : 0, 1);
        due("the greatest of both", x.lots(20, 5, 1), 99);
        Checks.tell(x, "l35350;");
        due("HOME alone, together", x.lots(20, 5, 0), 0);
        due("HOME alone, the greatest", x.lots(20, 5, 1), 0);
        Checks.tell(x, "ko35;l00000;l35359;");
        due("found at 10 days, no more 99", x.lots(20, 5, 1), 10);
        x = new HeWreckedHimself();
        due("found at more than 99 days", x.lots(1, -4451, 1), x.found(35));
        due("they are more", x.found(35) > 99 ? 1 : 0, 1);
    }

    /** z as often as told, then what a draw makes of it, in numbers without an end. */
    private static int draw(int z, int times, int below) {
        BigInteger number = BigInteger.valueOf(z);
        for (int i = 0; i < times; i++) number = number.multiply(TIMES).add(AND);
        return number.mod(WITHOUT_SIGN).divide(BigInteger.valueOf(256)).mod(BigInteger.valueOf(below)).intValue();
    }

    private void draw() {
        document.says("A DRAW below m: z becomes z times 1664525 and 1013904223 (an int); "
            + "(z without its sign's bit by 256, cut) modulo m.");
        // Each with z behind it: below 0 by its wrap-around, below 0 without one, above 0 with many.
        int[] seeds = {0, 1, -1, 1000, 682, -610, Integer.MAX_VALUE, Integer.MIN_VALUE, 12345, -99999};
        int[] below36 = {23, 9, 1, 10, 18, 32, 1, 23, 12, 15};
        int[] below324 = {311, 9, 289, 82, 198, 68, 289, 311, 156, 303};
        HeWreckedHimself x = new HeWreckedHimself();
        HeWreckedHimself heavy = Checks.told("l00359;");
        HeWreckedHimself light = Checks.told("l00350;l07071;");
        for (int i = 0; i < seeds.length; i++) {
            due("lots(1, " + seeds[i] + ", 0) below 36", x.lots(1, seeds[i], 0), x.found(below36[i]));
            due("lots(1, " + seeds[i] + ", 0) below 324", heavy.lots(1, seeds[i], 0), heavy.found(below324[i] / 9));
            due("lots(1, " + seeds[i] + ", 0) below 1", light.lots(1, seeds[i], 0), 2);
        }
        // The first and the last draw below 36, each from a z below 0.
        due("the draw 0", x.lots(1, -4464, 0), x.found(0));
        due("the draw 35", x.lots(1, -4451, 0), x.found(35));
        // Squares 3 and 30 have five of ten each: 4 is the last draw of the one, 5 the first of the other.
        HeWreckedHimself two = Checks.told("l00350;l03035;l30305;");
        for (int z = -50; z <= 50; z++) {
            due("lots(1, " + z + ", 0) below 10", two.lots(1, z, 0), two.found(draw(z, 1, 10) < 5 ? 3 : 30));
        }
    }

    private void drawsInTurn() {
        HeWreckedHimself x = new HeWreckedHimself();
        int[] seeds = {0, Integer.MAX_VALUE, Integer.MIN_VALUE, -1};
        for (int z : seeds) {
            int sum = 0;
            int greatest = 0;
            for (int n = 1; n <= 20; n++) {
                int found = x.found(draw(z, n, 36));
                sum += found;
                greatest = Math.max(greatest, found);
                due("lots(" + n + ", " + z + ", 0)", x.lots(n, z, 0), sum);
                due("lots(" + n + ", " + z + ", 1)", x.lots(n, z, 1), greatest);
            }
        }
        due("no draw changes the next", x.lots(1, 0, 0), x.found(23));
    }
}
