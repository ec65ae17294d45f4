/** Each sentence ahead of promise 1 that names a bound, an end, an empty or a full thing, by a test of its own. */
public final class TermsEdgesTest {
    private static final int NONE = HedgePark.NONE;
    private static final Check CHECK = new Check();
    private static final Sentences SENTENCES = new Sentences(CHECK);

    private static void test(String sentence, Sentences.Body body) {
        SENTENCES.test(0, sentence, body);
    }

    private static void due(String what, long got, long want) {
        CHECK.due(what, got, want);
    }

    private static void fine(String text, int lines) {
        HedgePark park = new HedgePark();
        due("park of " + text, Check.lay(park, text), lines);
        due("fault(0) of " + text, park.fault(0), 0);
        due("fault(1) of " + text, park.fault(1), NONE);
    }

    private static void faulty(String text, int kind, int place) {
        HedgePark park = new HedgePark();
        due("park of " + text, Check.lay(park, text), -10 - kind);
        due("fault(0) of " + text, park.fault(0), kind);
        due("fault(1) of " + text, park.fault(1), place);
        due("no cells by " + text, park.count(1), 0);
    }

    private static String times(int n, String text) {
        return text.repeat(n);
    }

    /** Blanks behind the first words, so that the whole is as long as told. */
    private static String stretched(String head, String tail, int length) {
        return head + times(length - head.length() - tail.length(), " ") + tail;
    }

    // ---- the text

    private static void theText() {
        test("THE PARK is a TEXT of at most 900 bytes", () -> {
            fine(stretched("park 2 2;", "wall 1 1;", 900), 2);
            faulty(stretched("park 2 2;", "wall 1 1", 900), 2, 900);
            faulty(stretched("park 2 2;", "!", 900), 1, 899);
            fine(stretched("park 2 2;grows 1=1" + times(436, "+1"), ";", 900), 2);
            HedgePark park = new HedgePark();
            Check.feed(park, times(45, "park 2 2;           "));
            due("more bytes", park.feed(0, 0, 0, 0, 0), NONE);
            due("as many as it had", park.count(9), 900);
            due("the first nine", park.park(9), 1);
        });
        test("(without one: no CELLS)", () -> {
            HedgePark park = new HedgePark();
            due("wide", park.count(1), 0);
            due("high", park.count(2), 0);
            due("walls", park.count(11), 0);
            due("a fault", Check.lay(park, "park 2 2"), -12);
            due("still none", park.count(1), 0);
            CHECK.throwsDue("cell(0, 0)", java.util.NoSuchElementException.class, () -> park.cell(0, 0));
        });
        test("park N N ; { LINE ; }", () -> {
            fine("park 2 2;", 1);
            fine("park 2 2;winter 2;", 2);
            faulty("park 2 2", 2, 8);
            faulty("park 2 2;winter 2", 2, 17);
            faulty("park 2 2;;", 2, 9);
            faulty("park 2;", 2, 6);
            faulty("park;", 2, 4);
            faulty(";", 2, 0);
            fine("park 2 2;" + times(99, "wall 0 0;"), 100);
        });
        test("walker N N [ free ] [ age N ]", () -> {
            fine("park 2 2;walker 0 0;walker 0 0 free;walker 0 0 age 1;walker 0 0 free age 1;", 5);
            faulty("park 2 2;walker 0 0 age 1 free;", 2, 26);
            faulty("park 2 2;walker 0 0 free free;", 2, 25);
            faulty("park 2 2;walker 0 0 age 1 age 1;", 2, 26);
            faulty("park 2 2;walker 0 0 age free;", 2, 24);
            faulty("park 2 2;walker 0 free;", 2, 18);
            faulty("park 2 2;walker;", 2, 15);
        });
        test("errand N N N N | grows TRUTH | winter N.", () -> {
            faulty("park 2 2;walker 0 0;errand 0 0 0;", 2, 32);
            faulty("park 2 2;walker 0 0;errand 0 0 0 0 0;", 2, 35);
            faulty("park 2 2;grows;", 2, 14);
            faulty("park 2 2;winter;", 2, 15);
            faulty("park 2 2;winter 2 2;", 2, 18);
        });
        test("KIND: box | yew | beech.", () -> {
            fine("park 2 2;hedge 0 0 box 1;hedge 0 0 yew 1;hedge 0 0 beech 1;", 4);
            faulty("park 2 2;hedge 0 0 1 1;", 2, 19);
            faulty("park 2 2;hedge 0 0 boxes 1;", 2, 19);
            faulty("park 2 2;hedge 0 0 be 1;", 2, 19);
            faulty("park 2 2;hedge 0 0 wall 1;", 2, 19);
        });
    }

    private static void theLaw() {
        test("TRUTH: BOTH { or BOTH }; BOTH: UNIT { and UNIT }", () -> {
            faulty("park 2 2;grows or 1=1;", 2, 15);
            faulty("park 2 2;grows 1=1 or;", 2, 21);
            faulty("park 2 2;grows 1=1 and;", 2, 22);
            faulty("park 2 2;grows 1=1 and or 1=1;", 2, 23);
            faulty("park 2 2;grows 1=1 1=1;", 2, 19);
            fine("park 2 2;grows 1=1" + times(90, "or 1=1 ") + times(31, "and 1=1") + ";", 2);
        });
        test("UNIT: not UNIT, [ TRUTH ], or SUM, one of = < >, SUM.", () -> {
            faulty("park 2 2;grows [];", 2, 16);
            faulty("park 2 2;grows not;", 2, 18);
            faulty("park 2 2;grows 1==1;", 2, 17);
            faulty("park 2 2;grows 1<=1;", 2, 17);
            faulty("park 2 2;grows 1=1=1;", 2, 18);
            faulty("park 2 2;grows [1=1;", 2, 19);
            faulty("park 2 2;grows 1=1];", 2, 18);
            faulty("park 2 2;grows [1=1)];", 2, 19);
            faulty("park 2 2;grows (1=1);", 2, 17);
        });
        test("ATOM: N, x, y, kind, thick, near, night, ( SUM ).", () -> {
            fine("park 2 2;grows 0+x+y+kind+thick+near+night+(0)=999;", 2);
            faulty("park 2 2;grows ()=1;", 2, 16);
            faulty("park 2 2;grows (1=1;", 2, 17);
            faulty("park 2 2;grows -1=1;", 2, 15);
            faulty("park 2 2;grows 1+=1;", 2, 17);
            faulty("park 2 2;grows 1**1=1;", 2, 17);
            faulty("park 2 2;grows z=1;", 2, 15);
            faulty("park 2 2;grows box=1;", 2, 15);
            faulty("park 2 2;grows nights=1;", 2, 15);
        });
        test("UNIT { and UNIT }; UNIT: not UNIT", () -> {
            grows("1=1", true);
            grows("1=2", false);
            grows("1<1", false);
            grows("1<2", true);
            grows("1>1", false);
            grows("2>1", true);
            for (String wrong : new String[] {"1=2", "2<1", "1>2"}) {
                grows(wrong + " and 1=1", false);
                grows("1=1 and " + wrong, false);
                grows(wrong + " or 1=2", false);
                grows(wrong + " or 1=1", true);
                grows("not " + wrong, true);
            }
            grows("not 1=1", false);
            grows("not 1=2", true);
            grows("not not 1=1", true);
            grows("not 1=2 and 1=2", false);
            grows("not[1=2 and 1=2]", true);
            grows("1=1 or 1=1 and 1=2", true);
            grows("[1=1 or 1=1]and 1=2", false);
            grows("1=2 and 1=2 or 1=1", true);
            grows("1=1 or 1=1", true);
            grows("1=2 or 1=2", false);
            grows("1=1 and 1=1", true);
            grows("not not not not not not 1=1", true);
            grows("[not[not[(1+1)*(1)=2]]]", true);
        });
        test("SUM: TERM { + TERM | - TERM }; TERM: ATOM { * ATOM }", () -> {
            grows("7-3-2=2", true);
            grows("7-(3-2)=6", true);
            grows("2+3*4=14", true);
            grows("(2+3)*4=20", true);
            grows("2*3*4-1=23", true);
            grows("0-1<0", true);
            grows("5-6+1=0", true);
        });
        test("At most six of not [ ( within one another.", () -> {
            fine("park 2 2;grows " + times(6, "not ") + "1=1;", 2);
            faulty("park 2 2;grows " + times(7, "not ") + "1=1;", 4, 39);
            fine("park 2 2;grows " + times(6, "[") + "1=1" + times(6, "]") + ";", 2);
            faulty("park 2 2;grows " + times(7, "[") + "1=1" + times(7, "]") + ";", 4, 21);
            fine("park 2 2;grows " + times(6, "(") + "1" + times(6, ")") + "=1;", 2);
            faulty("park 2 2;grows " + times(7, "(") + "1" + times(7, ")") + "=1;", 4, 21);
            fine("park 2 2;grows not[not[((1))=1]];", 2);
            faulty("park 2 2;grows not[not[(((1)))=1]];", 4, 25);
            // side by side they are not within one another
            fine("park 2 2;grows " + times(20, "[1=1]and ") + "not not(1)=(1);", 2);
            fine("park 2 2;grows " + times(6, "[") + "1=1" + times(6, "]") + "or" + times(6, "[") + "1=1" + times(6, "]")
                    + "or" + times(6, "(") + "1" + times(6, ")") + "=" + times(6, "(") + "1" + times(6, ")") + ";", 2);
            // behind an end one less stands round what comes
            fine("park 2 2;grows [[[[[[1=1]or[1=1]]]]]];", 2);
            fine("park 2 2;grows not not not not not[1=1]and not not not not not not 1=1;", 2);
        });
    }

    // ---- what lines tell

    private static void theSize() {
        test("park: WIDE, HIGH, 2 to 6 each", () -> {
            for (int wide = 2; wide <= 6; wide++) {
                for (int high = 2; high <= 6; high++) {
                    HedgePark park = Check.of("park " + wide + " " + high + ";");
                    due("wide", park.count(1), wide);
                    due("high", park.count(2), high);
                    int last = wide * high - 1;
                    due("the last cell", park.cell(last, 0), 0);
                    CHECK.throwsDue("one more", java.util.NoSuchElementException.class, () -> park.cell(last + 1, 0));
                }
            }
            for (String n : new String[] {"0", "1", "7", "8", "10", "26", "999", "001"}) {
                faulty("park " + n + " 2;", 3, 5);
                faulty("park 2 " + n + ";", 3, 7);
            }
        });
        test("CELLS by WIDE times y, and x, from 0 on: paths at first.", () -> {
            due("the last of the first row", Check.of("park 6 2;hedge 5 0 box 1;").hedges(), 1L << 5);
            due("the first of the second", Check.of("park 6 2;hedge 0 1 box 1;").hedges(), 1L << 6);
            due("a high one's last", Check.of("park 2 6;hedge 1 5 box 1;").hedges(), 1L << 11);
            due("the last of all", Check.of("park 6 6;hedge 5 5 box 1;").hedges(), 1L << 35);
            HedgePark park = Check.of("park 6 6;");
            for (int k = 0; k < 36; k++) {
                due("cell " + k, park.cell(k, 0), 0);
                due("its cost", park.cell(k, 2), 1);
            }
        });
        test("hedge: x, y, its KIND (box 1, yew 2, beech 3), how THICK it is, 1 to 60", () -> {
            String[] kinds = {"box", "yew", "beech"};
            for (int kind = 1; kind <= 3; kind++) {
                for (int thick : new int[] {1, 60}) {
                    HedgePark park = Check.of("park 3 2;hedge 2 1 " + kinds[kind - 1] + " " + thick + ";");
                    due("kind", park.cell(5, 0), kind);
                    due("thick", park.cell(5, 1), thick);
                }
                int place = 20 + kinds[kind - 1].length();
                faulty("park 3 2;hedge 2 1 " + kinds[kind - 1] + " 0;", 3, place);
                faulty("park 3 2;hedge 2 1 " + kinds[kind - 1] + " 61;", 3, place);
                faulty("park 3 2;hedge 2 1 " + kinds[kind - 1] + " 999;", 3, place);
            }
            faulty("park 3 2;hedge 3 1 box 1;", 3, 15);
            faulty("park 3 2;hedge 2 2 box 1;", 3, 17);
            faulty("park 2 3;hedge 2 1 box 1;", 3, 15);
            fine("park 2 3;hedge 1 2 box 1;", 2);
        });
        test("wall: x, y; a later hedge, wall on a CELL strikes.", () -> {
            fine("park 3 2;wall 2 1;", 2);
            faulty("park 3 2;wall 3 1;", 3, 14);
            faulty("park 3 2;wall 2 2;", 3, 16);
            HedgePark park = Check.of("park 2 2;hedge 0 0 yew 9;hedge 0 0 box 4;wall 1 0;hedge 1 0 beech 2;"
                    + "hedge 0 1 box 5;wall 0 1;wall 1 1;wall 1 1;");
            due("a hedge's hedge", park.cell(0, 0), 1);
            due("as thick as the later", park.cell(0, 1), 4);
            due("a wall's hedge", park.cell(1, 0), 3);
            due("a hedge's wall", park.cell(2, 0), 4);
            due("it isn't thick", park.cell(2, 1), 0);
            due("walls", park.count(11), 2);
            due("all together", park.thickness(), 6);
        });
    }

    private static void theWalkers() {
        test("walker: x, y (no wall), free: it pushes for nothing", () -> {
            fine("park 3 2;walker 2 1;", 2);
            faulty("park 3 2;walker 3 1;", 3, 16);
            faulty("park 3 2;walker 2 2;", 3, 18);
            faulty("park 3 2;wall 2 1;walker 2 1;", 3, 27);
            fine("park 3 2;wall 2 1;walker 1 1;walker 2 0;", 4);
            fine("park 3 2;wall 2 1;hedge 2 1 box 60;walker 2 1;", 4);
            HedgePark park = Check.of("park 2 2;hedge 1 0 beech 60;hedge 1 1 beech 60;walker 0 0;walker 0 0 free;");
            due("who isn't free", park.soonest(0, 1), 181);
            due("who is", park.soonest(1, 1), 1);
        });
        test("AGE in quarters, 0 to 999 (0)", () -> {
            HedgePark park = Check.of("park 2 2;walker 0 0 age 0;walker 0 0 age 999;walker 0 0;walker 0 0 free;");
            due("the least", park.walker(0, 1), 0);
            due("the most", park.walker(1, 1), 999);
            due("without one", park.walker(2, 1), 0);
            due("free, without one", park.walker(3, 1), 0);
            faulty("park 2 2;walker 0 0 age 1000;", 1, 24);
            due("it goes on", park.walk(1, 3), 2);
            due("beyond 999", park.walker(1, 1), 1001);
        });
        test("numbered from 0 on, 5 at most.", () -> {
            String five = "park 3 2;walker 0 0;walker 1 0;walker 2 0;walker 0 1;walker 1 1;";
            HedgePark park = Check.of(five);
            due("walkers", park.count(3), 5);
            for (int w = 0; w < 5; w++) {
                due("walker " + w, park.walker(w, 0), w);
                due("its bit", park.cell(w, 4), 1 << w);
            }
            faulty(five + "walker 2 1;", 4, 64);
            due("on one cell", Check.of("park 2 2;" + times(5, "walker 0 0;")).cell(0, 4), 31);
        });
        test("errand: the WALKER, x, y, by which TIME, 0 to 999; 4 at most for each, in order as told.", () -> {
            StringBuilder b = new StringBuilder("park 2 2;" + times(5, "walker 0 0;"));
            for (int i = 0; i < 4; i++) {
                for (int w = 4; w >= 0; w--) {
                    b.append("errand ").append(w).append(' ').append(i % 2).append(' ').append(i / 2).append(' ')
                            .append(i == 0 ? 0 : i == 3 ? 999 : 10 * w + i).append(';');
                }
            }
            HedgePark park = Check.of(b.toString());
            for (int w = 0; w < 5; w++) {
                due("errands of " + w, park.walker(w, 3), 4);
                for (int i = 0; i < 4; i++) {
                    due("cell", park.walker(w, 10 + i), i);
                    due("time", park.walker(w, 20 + i), i == 0 ? 0 : i == 3 ? 999 : 10 * w + i);
                }
                faulty(b + "errand " + w + " 0 0 0;", 4, b.length() + 7);
            }
            faulty(b + "errand 5 0 0 0;", 3, b.length() + 7);
            faulty("park 2 2;walker 0 0;errand 0 2 0 0;", 3, 29);
            faulty("park 2 2;walker 0 0;errand 0 0 2 0;", 3, 31);
            faulty("park 2 2;walker 0 0;errand 0 0 0 1000;", 1, 33);
            fine("park 2 2;wall 1 1;walker 0 0;errand 0 1 1 5;", 4);
        });
        test("winter: each so many-th NIGHT (2 to 9) is one (none without).", () -> {
            for (int n = 2; n <= 9; n++) {
                HedgePark park = Check.of("park 2 2;winter " + n + ";");
                due("no night yet", park.count(10), 0);
                for (int night = 1; night <= 20; night++) {
                    park.nights(1);
                    due("night " + night + " of winter " + n, park.count(10), night % n == 0 ? 1 : 0);
                }
            }
            for (String n : new String[] {"0", "1", "10", "99", "999"}) {
                faulty("park 2 2;winter " + n + ";", 3, 16);
            }
            HedgePark park = Check.of("park 2 2;");
            for (int night = 0; night <= 20; night++) {
                due("without a winter", park.count(10), 0);
                park.nights(1);
            }
        });
        test("Later ones of grows, winter strike.", () -> {
            HedgePark park = Check.of("park 2 2;hedge 0 0 box 1;grows 1=1;winter 2;grows 1=2;winter 3;");
            due("the later law", park.nights(2), 0);
            due("the later winter", park.count(10), 0);
            due("a night more", park.nights(1), 0);
            due("the later winter", park.count(10), 1);
            due("the law alone", Check.of("park 2 2;hedge 0 0 box 1;grows 1=2 and 1=2;grows 1=1;").nights(2), 2);
        });
        test("All walls are told ahead of all walkers.", () -> {
            fine("park 2 2;grows 1=1;winter 2;hedge 0 0 box 1;wall 1 1;walker 0 0;", 6);
            faulty("park 2 2;walker 0 0;wall 1 1;", 2, 20);
            faulty("park 2 2;walker 0 0;hedge 1 1 box 1;wall 1 0;", 2, 36);
            fine("park 2 2;walker 0 0;hedge 0 0 box 9;", 3);
        });
    }

    // ---- tokens and faults

    private static void theTokens() {
        test("TOKENS, as long as they go, between them blanks (10, 32)", () -> {
            fine("park2 2;", 1);
            fine("\n \npark\n2\n2\n;\n \n", 1);
            fine("park 2 2;hedge 0 0box60;walker 0 0free age9;grows x=1and y=1or 1=1;", 4);
            faulty("park22;", 3, 4);
            faulty("parkk 2 2;", 2, 0);
            faulty("par k 2 2;", 2, 0);
            faulty("park 2 2;walker 0 0 freeage 9;", 2, 20);
            faulty("park 2 2;grows 1=1andy=1;", 2, 18);
            for (int blank : new int[] {0, 9, 11, 12, 13, 31, 33, 128, 160, 255}) {
                faulty("park" + (char) blank + "2 2;", 1, 4);
            }
        });
        test("words (small letters), N (1 to 3 digits), the signs ; + - * ( ) [ ] = < >.", () -> {
            for (int c = 0; c < 256; c++) {
                String text = "park 2 2;" + (char) c;
                boolean token = c >= 'a' && c <= 'z' || c >= '0' && c <= '9' || ";+-*()[]=<>".indexOf(c) >= 0;
                if (c == 10 || c == 32) {
                    fine(text, 1);
                } else {
                    faulty(text, token ? 2 : 1, 9);
                }
            }
            fine("park 002 002;wall 000 001;winter 009;hedge 0 0 box 060;", 4);
            faulty("park 0002 2;", 1, 5);
        });
        test("1 no TOKEN begins so (4 digits and more: at their first).", () -> {
            faulty("park 2 2000;", 1, 7);
            faulty("park 2 20000000000;", 1, 7);
            faulty("park 2 0000000000002;", 1, 7);
            faulty("1234", 1, 0);
            faulty("park 2 2;grows 1000=1;", 1, 15);
            fine("park 2 2;grows 999=000;", 2);
            faulty("Park 2 2;", 1, 0);
            faulty("pArk 2 2;", 2, 0);
            faulty("park 2 2;wall 0 0,", 1, 17);
        });
        test("2 it can't stand there (the end: the text's length;", () -> {
            faulty("", 2, 0);
            faulty(" ", 2, 1);
            faulty("park", 2, 4);
            faulty("park ", 2, 5);
            faulty("park 2 2 \n \n", 2, 12);
            faulty("park 2 2;grows 1=", 2, 17);
            faulty("park 2 2;grows [[", 2, 17);
            faulty("park 2 2;grows 1=1 and  ", 2, 24);
        });
        test("park must be told first, and once;", () -> {
            faulty("wall 0 0;park 2 2;", 2, 0);
            faulty("winter 2;", 2, 0);
            faulty("2 2;", 2, 0);
            faulty("2", 2, 0);
            faulty("parks 2 2;", 2, 0);
            faulty("park 2 2;park 2 2;", 2, 9);
            faulty("park 2 2;walker 0 0;park 2 2;", 2, 20);
        });
        test("a wall behind a walker: at its first TOKEN).", () -> {
            faulty("park 2 2;walker 0 0;wall 9 9;", 2, 20);
            faulty("park 2 2;walker 0 0;  wall", 2, 22);
        });
        test("3 N is out of its bounds (the y of a walker whose CELL is a wall; a WALKER that isn't told).", () -> {
            faulty("park 2 2;wall 1 0;walker 1 0;", 3, 27);
            faulty("park 2 2;wall 1 0;walker 2 0;", 3, 25);
            faulty("park 2 2;errand 0 0 0 0;", 3, 16);
            faulty("park 2 2;walker 0 0;errand 1 0 0 0;", 3, 27);
            faulty("park 2 2;walker 0 0;errand 1 0 0 0;walker 0 0;", 3, 27);
            faulty("park 2 2;walker 0 0;errand 999 0 0 0;", 3, 27);
        });
        test("4 the first TOKEN of a 6th walker; the WALKER's number of its 5th errand; a seventh of not [ (.", () -> {
            String five = "park 2 2;" + times(5, "walker 0 0;");
            faulty(five + " walker 9 9;", 4, 65);
            faulty(five + "walker", 4, 64);
            String four = "park 2 2;walker 0 0;walker 0 0;" + times(4, "errand 0 0 0 1;");
            faulty(four + "errand 0 9 9 1;", 4, 98);
            faulty(four + "errand 0", 4, 98);
            fine(four + times(4, "errand 1 0 0 1;"), 11);
            faulty("park 2 2;grows not[((((", 2, 23);
            faulty("park 2 2;grows not[((((x", 2, 24);
            faulty("park 2 2;grows not[(((((", 4, 23);
            faulty("park 2 2;grows not[((((1+(", 4, 25);
            faulty("park 2 2;grows [[[[[[not", 4, 21);
            faulty("park 2 2;grows not not not not not not [", 4, 39);
        });
        test("FAULTS, the first along the text, of one TOKEN the least kind", () -> {
            faulty("park 7 2;#", 3, 5);
            faulty("park 2 2;wall 5 #", 3, 14);
            faulty("park 2 # 9", 1, 7);
            faulty("park 2 2;walker 0 0;wall #", 2, 20);
            faulty("park 2 2;" + times(5, "walker 0 0;") + "walker #", 4, 64);
            // one token: 1 ahead of 2 and 3, 2 ahead of 3 and 4, 3 ahead of 4
            faulty("park 1000 2;", 1, 5);
            faulty("park 2 2;hedge 0 0 1000 1;", 1, 19);
            faulty("park 2 2;winter 2 999;", 2, 18);
            faulty("park 2 2;" + times(5, "walker 0 0;") + "hedge 0 0 walker 1;", 2, 74);
            faulty("park 2 2;grows [[[[[[1(", 2, 22);
            faulty("park 2 2;grows ((((((not", 2, 21);
            faulty("park 2 2;grows ((((((]", 2, 21);
        });
    }

    // ---- costs, nights, deeds

    private static void theCosts() {
        test("It COSTS, to go to it: 1 quarter, and for a hedge THICK times its KIND more", () -> {
            String[] kinds = {"box", "yew", "beech"};
            for (int kind = 1; kind <= 3; kind++) {
                for (int thick : new int[] {1, 2, 59, 60}) {
                    HedgePark park = Check.of("park 2 2;wall 0 1;hedge 1 0 " + kinds[kind - 1] + " " + thick + ";walker 0 0;");
                    due("its cost", park.cell(1, 2), 1 + thick * kind);
                    due("to go to it", park.soonest(0, 1), 1 + thick * kind);
                    due("to go from it is for nothing", park.soonest(0, 3), 2 + thick * kind);
                }
            }
        });
        test("half of that (cut) on a WINTER's NIGHT (NIGHT, from 1 on, a multiple of winter's number)", () -> {
            HedgePark park = Check.of("park 3 2;hedge 0 0 box 1;hedge 1 0 box 2;hedge 2 0 box 3;hedge 0 1 beech 1;"
                    + "hedge 1 1 beech 59;hedge 2 1 beech 60;winter 2;");
            int[] whole = {1, 2, 3, 3, 177, 180};
            int[] half = {0, 1, 1, 1, 88, 90};
            for (int night = 0; night <= 6; night++) {
                for (int k = 0; k < 6; k++) {
                    boolean winter = night == 2 || night == 4 || night == 6;
                    due("cell " + k + " in night " + night, park.cell(k, 2), 1 + (winter ? half : whole)[k]);
                }
                park.nights(1);
            }
        });
        test("for a WALKER that is free just 1.", () -> {
            HedgePark park = Check.of("park 2 2;hedge 1 0 beech 60;hedge 0 1 box 1;hedge 1 1 yew 60;walker 0 0 free;winter 2;");
            due("by day", park.soonest(0, 3), 2);
            due("both ways", park.ways(0, 3), 2);
            park.nights(2);
            due("in winter", park.soonest(0, 3), 2);
        });
        test("One goes to CELLS beside (in x or y), never to walls.", () -> {
            HedgePark wide = Check.of("park 6 2;hedge 5 0 box 1;hedge 0 1 box 1;walker 5 0;grows near>0;");
            due("a row's end isn't beside the next row's begin", wide.soonest(0, 6), 7);
            due("nor where one may be", wide.maybe(0, 1), 1L << 4 | 1L << 11);
            due("nor near", wide.cell(5, 3), 0);
            due("nor near", wide.cell(6, 3), 0);
            due("nor shut off at once", wide.shutOff(0, 6), 2);
            HedgePark high = Check.of("park 2 6;walker 0 0;");
            due("the last row isn't beside the first", high.soonest(0, 10), 5);
            due("nor where one may be", high.maybe(0, 1), 1L << 1 | 1L << 2);
            HedgePark aslant = Check.of("park 2 2;wall 1 0;wall 0 1;walker 0 0;");
            due("not aslant", aslant.soonest(0, 3), NONE);
            due("never to walls", aslant.reach(0, 999), 1);
            HedgePark parted = Check.of("park 3 2;wall 1 0;wall 1 1;walker 2 0;");
            due("parted", parted.shutOff(0, 3), 0);
            due("parted", parted.reach(0, 999), 1L << 2 | 1L << 5);
        });
        test("A WALK of a WALKER to a CELL by its WAY: TIME goes on by all COSTS, its AGE, too; it stands there then.", () -> {
            HedgePark park = Check.of("park 3 2;wall 1 1;hedge 1 0 yew 2;walker 0 0 age 999;walker 2 1 free age 5;");
            due("a walk", park.walk(0, 2), 6);
            due("time", park.count(5), 6);
            due("age", park.walker(0, 1), 1005);
            due("the other's age", park.walker(1, 1), 5);
            due("cell", park.walker(0, 0), 2);
            due("a walk", park.walk(1, 0), 3);
            due("time", park.count(5), 9);
            due("age", park.walker(1, 1), 8);
            due("back", park.walk(0, 0), 6);
            due("time", park.count(5), 15);
            due("both there", park.cell(0, 4), 3);
        });
    }

    private static void grows(String truth, boolean holds) {
        HedgePark park = Check.of("park 2 2;hedge 0 0 box 1;grows " + truth + ";");
        due("growth by " + truth, park.cell(0, 3), holds ? 1 : 0);
    }

    private static void theNights() {
        test("A NIGHT: NIGHT is 1 more (0 at first), TIME is 0", () -> {
            HedgePark park = Check.of("park 2 2;walker 0 0;");
            due("at first", park.count(4), 0);
            park.walk(0, 3);
            due("time", park.count(5), 2);
            park.nights(1);
            due("night", park.count(4), 1);
            due("time", park.count(5), 0);
            due("age stays", park.walker(0, 1), 2);
        });
        test("each hedge for which the law holds is 1 THICKER (60 at most), all at once", () -> {
            HedgePark park = Check.of("park 2 2;hedge 0 0 box 59;hedge 1 0 yew 60;hedge 0 1 beech 1;wall 1 1;grows 1=1;");
            due("would grow", park.cell(0, 3), 1);
            due("60 wouldn't", park.cell(1, 3), 0);
            due("a wall wouldn't", park.cell(3, 3), 0);
            due("two of three", park.nights(1), 2);
            due("60", park.cell(0, 1), 60);
            due("60 still", park.cell(1, 1), 60);
            due("it wouldn't any more", park.cell(0, 3), 0);
            due("one alone", park.nights(1), 1);
            due("the last of 60", park.nights(99), 57);
            due("none", park.nights(99), 0);
            due("all", park.thickness(), 180);
            // what the first becomes isn't seen by the second
            HedgePark once = Check.of("park 2 2;hedge 0 0 box 1;hedge 1 1 box 2;grows thick=1 or thick=2 and kind=1 and night<1;");
            due("both", once.nights(1), 2);
            due("neither", once.nights(1), 0);
        });
        test("all at once: x, y; kind: 1 to 3; thick;", () -> {
            HedgePark x = Check.of("park 6 2;hedge 0 0 box 1;hedge 5 0 box 1;hedge 5 1 box 1;hedge 1 0 box 1;grows x=5;");
            due("x", x.cell(0, 3) + 2 * x.cell(5, 3) + 4 * x.cell(11, 3) + 8 * x.cell(1, 3), 6);
            HedgePark y = Check.of("park 2 6;hedge 0 0 box 1;hedge 0 5 box 1;hedge 1 5 box 1;hedge 1 0 box 1;grows y=5;");
            due("y", y.cell(0, 3) + 2 * y.cell(10, 3) + 4 * y.cell(11, 3) + 8 * y.cell(1, 3), 6);
            String[] kinds = {"box", "yew", "beech"};
            for (int kind = 1; kind <= 3; kind++) {
                for (int told = 0; told <= 4; told++) {
                    HedgePark park = Check.of("park 2 2;hedge 1 1 " + kinds[kind - 1] + " 60;hedge 1 0 "
                            + kinds[kind - 1] + " 59;grows kind=" + told + ";");
                    due("kind", park.cell(1, 3), told == kind ? 1 : 0);
                    due("60 thick", park.cell(3, 3), 0);
                }
            }
            HedgePark thick = Check.of("park 2 2;hedge 0 0 box 1;hedge 1 0 box 2;hedge 0 1 yew 1;hedge 1 1 yew 59;grows thick*kind=2;");
            due("thick", thick.cell(0, 3) + 2 * thick.cell(1, 3) + 4 * thick.cell(2, 3) + 8 * thick.cell(3, 3), 6);
            due("two", thick.nights(1), 2);
            due("none", thick.nights(1), 0);
        });
        test("near: how many of the CELLS beside are hedges", () -> {
            HedgePark park = Check.of("park 3 3;hedge 0 0 box 1;hedge 1 0 box 1;hedge 2 0 box 1;hedge 0 1 box 1;"
                    + "hedge 1 1 box 1;hedge 2 1 box 1;hedge 1 2 box 1;wall 0 2;grows near=4;");
            due("in the middle", park.cell(4, 3), 1);
            for (int k : new int[] {0, 1, 2, 3, 5, 7}) {
                due("cell " + k, park.cell(k, 3), 0);
            }
            park.clip(1, 1);
            due("a path isn't one", park.cell(4, 3), 0);
            due("alone", Check.of("park 2 2;hedge 0 0 box 1;hedge 1 1 box 1;wall 1 0;grows near=0;").nights(1), 2);
            due("two", Check.of("park 2 2;hedge 0 0 box 1;hedge 1 0 box 1;hedge 0 1 box 1;grows near=2;").cell(0, 3), 1);
        });
        test("night: NIGHT as it was, modulo 1,000", () -> {
            HedgePark park = Check.of("park 2 2;hedge 0 0 box 1;grows night=0;");
            due("the first night is 0", park.nights(1), 1);
            for (int i = 0; i < 10; i++) {
                due("not again", park.nights(99), 0);
            }
            due("till the 1,000th", park.nights(9), 0);
            due("night", park.count(4), 1000);
            due("it would", park.cell(0, 3), 1);
            due("once more", park.nights(1), 1);
            due("and no more", park.nights(1), 0);
            HedgePark last = Check.of("park 2 2;hedge 0 0 box 1;grows night=999;");
            for (int i = 0; i < 9; i++) {
                last.nights(99);
            }
            due("till 999", last.nights(99) + last.nights(9), 0);
            due("night 999", last.nights(1), 1);
            due("night 1000 isn't", last.nights(1), 0);
        });
        test("each + - * kept from -1,000,000 to 1,000,000", () -> {
            String million = "(999+1)*(999+1)";
            String less = "(0-" + million + ")";
            grows(million + "-1<" + million, true);
            grows(million + "+1=" + million, true);
            grows(million + "+1-1=" + million + "-1", true);
            grows(million + "*999=" + million, true);
            // as an int a million times a million would be below 0
            grows(million + "*(" + million + ")=" + million, true);
            grows(less + "-1=" + less, true);
            grows(less + "-1+1=" + less + "+1", true);
            grows(less + "+1=" + less, false);
            grows(less + "*999=" + less, true);
            grows(less + "*(" + million + ")=" + less, true);
            grows(less + "*" + less + "=" + million, true);
            grows(less + "+" + million + "=0", true);
            grows("999*999+999+999=" + million + "-1", true);
            grows("999*999+999+999+1=" + million, true);
            grows("999*999+999+999+2=" + million, true);
            grows("0-999*999-999-999=" + less + "+1", true);
            grows("0-999*999-999-999-2=" + less, true);
            grows("0-999*999-999-999-2+1=" + less + "+1", true);
        });
        test("(without a law none grows)", () -> {
            HedgePark park = Check.of("park 2 2;hedge 0 0 box 1;hedge 1 0 beech 60;");
            due("it wouldn't", park.cell(0, 3), 0);
            due("none", park.nights(99), 0);
            due("all", park.thickness(), 61);
        });
    }

    private static void theDeeds() {
        test("To CLIP a hedge by n: it is n less THICK (a path, if that is 0 or less): CLIPPINGS are as many more as it was less.", () -> {
            for (int n : new int[] {1, 4, 5, 6, 60}) {
                HedgePark park = Check.of("park 2 2;hedge 0 0 yew 5;");
                due("thick then", park.clip(0, n), Math.max(0, 5 - n));
                due("kind then", park.cell(0, 0), n >= 5 ? 0 : 2);
                due("clippings", park.count(6), Math.min(5, n));
                due("hedges", park.count(7), n >= 5 ? 0 : 1);
                due("cost", park.cell(0, 2), n >= 5 ? 1 : 1 + 2 * (5 - n));
            }
            HedgePark park = Check.of("park 2 2;hedge 0 0 box 60;");
            due("all of 60", park.clip(0, 60), 0);
            due("clippings", park.count(6), 60);
        });
        test("To PLANT a hedge of a KIND on a path where nobody stands: 1 THICK.", () -> {
            for (int kind = 1; kind <= 3; kind++) {
                HedgePark park = Check.of("park 2 2;walker 1 1;");
                due("how many", park.plant(0, kind), 1);
                due("kind", park.cell(0, 0), kind);
                due("thick", park.cell(0, 1), 1);
                due("no clippings", park.count(6), 0);
            }
            HedgePark park = Check.of("park 2 2;hedge 1 1 box 1;walker 1 1;walker 0 0;");
            park.clip(3, 1);
            CHECK.throwsDue("somebody stands there", IllegalStateException.class, () -> park.plant(3, 1));
            park.walk(0, 0);
            due("nobody does now", park.plant(3, 1), 1);
            CHECK.throwsDue("two stand there", IllegalStateException.class, () -> park.plant(0, 1));
        });
        test("NIGHTS of one call; each can be UNDONE, the latest first, 10 at most (eldest are forgotten).", () -> {
            HedgePark park = Check.of("park 2 2;walker 0 0;");
            for (int i = 1; i <= 10; i++) {
                park.nights(i);
                due("deeds", park.count(8), i);
            }
            park.nights(50);
            due("ten", park.count(8), 10);
            due("all nights", park.count(4), 105);
            due("the latest first", park.undo(1), 9);
            due("night", park.count(4), 55);
            due("a deed takes its place", park.walk(0, 1), 1);
            due("ten", park.count(8), 10);
            due("all ten", park.undo(10), 0);
            due("the eldest is forgotten", park.count(4), 1);
            CHECK.throwsDue("no more", IllegalArgumentException.class, () -> park.undo(1));
        });
    }

    private static int whyNot(long v) {
        long k = Math.floorMod(v, 100L);
        boolean cell = k < 12;
        if (v == -1) {
            return 0;
        }
        if (v >= 0 && v <= 499) {
            return cell && v < 200 ? k == 5 ? 2 : 0 : 1;
        }
        if (v >= 1000 && v <= 1099) {
            return cell ? k == 2 || k == 7 ? 0 : 2 : 1;
        }
        if (v >= 2000 && v <= 2399) {
            boolean plot = k != 0 && k != 8 && k != 2 && k != 7 && k != 5;
            return cell && v >= 2100 ? plot ? 0 : 2 : 1;
        }
        return 1;
    }

    private static void theToldDeeds() {
        test("0 to 499: WALKER v by 100 walks to CELL v modulo 100; 1000 to 1099: CELL v - 1000 is CLIPPED by 1;", () -> {
            HedgePark park = Check.of("park 4 3;wall 1 1;hedge 2 0 box 3;hedge 3 1 yew 2;walker 0 0;walker 0 2 free;");
            park.tray(0, 3, 1);
            for (long v = -1200; v <= 3200; v++) {
                park.write(0, 0, v);
                due("why of " + v, park.judge(0, 1), whyNot(v));
                due("place of " + v, park.judge(0, 0), whyNot(v) == 0 ? NONE : 0);
            }
            for (long v : new long[] {Long.MIN_VALUE, Long.MAX_VALUE, 1L << 32, (1L << 32) - 1, -1L - (1L << 32),
                (1L << 32) + 1002, (1L << 31), -(1L << 31)}) {
                park.write(0, 0, v);
                due("why of " + v, park.judge(0, 1), 1);
                due("none done of " + v, park.perform(0), 0);
            }
        });
        test("2000 to 2399: on CELL v modulo 100 a hedge of KIND v by 100 modulo 10 is PLANTED; NONE: a NIGHT.", () -> {
            HedgePark park = Check.of("park 6 6;walker 0 0;");
            park.tray(0, 1, 5);
            long[] row = {2135, 2234, 2333, 1035, NONE};
            for (int i = 0; i < row.length; i++) {
                park.write(0, i, row[i]);
            }
            due("all", park.perform(0), 5);
            due("clipped again", park.cell(35, 0), 0);
            due("kind 2", park.cell(34, 0), 2);
            due("kind 3", park.cell(33, 0), 3);
            due("1 thick", park.cell(33, 1), 1);
            due("a night", park.count(4), 1);
            due("clippings", park.count(6), 1);
        });
        test("They can't be: 1 no such WALKER, CELL, KIND, number; 2 there is no WAY, no hedge to CLIP, no place to PLANT.", () -> {
            HedgePark park = Check.of("park 6 6;wall 5 4;wall 4 5;walker 0 0;");
            park.tray(0, 1, 1);
            long[][] row = {{35, 2}, {34, 2}, {36, 1}, {99, 1}, {100, 1}, {1035, 2}, {1034, 2}, {1036, 1}, {2135, 0},
                {2134, 2}, {2100, 2}, {2136, 1}, {2035, 1}, {2435, 1}, {999, 1}, {500, 1}, {-2, 1}};
            for (long[] one : row) {
                park.write(0, 0, one[0]);
                due("why of " + one[0], park.judge(0, 1), one[1]);
            }
            // with no cells only nights can be
            HedgePark empty = new HedgePark();
            empty.tray(0, 1, 2);
            empty.write(0, 0, -1);
            due("place", empty.judge(0, 0), 1);
            due("why", empty.judge(0, 1), 1);
        });
    }

    private static void theRest() {
        test("TRAYS 0 to 3 are MISSING at first, or rows of 0 to 40 numbers of 8 bits (sort 0), 16 (1), 32 (2), 64 (3).", () -> {
            HedgePark park = new HedgePark();
            for (int t = 0; t < 4; t++) {
                int tray = t;
                CHECK.throwsDue("missing", IllegalStateException.class, () -> park.copy(tray));
                for (int many : new int[] {0, 1, 40}) {
                    park.tray(t, 3 - t, many);
                    CHECK.throwsDue("behind its end", IndexOutOfBoundsException.class, () -> park.write(tray, many, 1));
                    if (many > 0) {
                        due("its last place", park.write(t, many - 1, 1), 1);
                    }
                }
            }
            int[] bits = {8, 16, 32};
            for (int sort = 0; sort < 3; sort++) {
                park.tray(0, sort, 1);
                long half = 1L << bits[sort] - 1;
                due("the most", park.write(0, 0, half - 1), half - 1);
                due("one more wraps round", park.write(0, 0, half), -half);
                due("the least", park.write(0, 0, -half), -half);
                due("one less wraps round", park.write(0, 0, -half - 1), half - 1);
                due("a whole round", park.write(0, 0, 2 * half), 0);
                due("a whole round and 7", park.write(0, 0, 2 * half + 7), 7);
            }
            park.tray(0, 3, 1);
            due("the most of all", park.write(0, 0, Long.MAX_VALUE), Long.MAX_VALUE);
            due("the least of all", park.write(0, 0, Long.MIN_VALUE), Long.MIN_VALUE);
        });
        test("IMAGES 0 to 2: all but the tape, the FAULT and TRAYS, as it was (none at first).", () -> {
            HedgePark park = new HedgePark();
            for (int i = 0; i < 3; i++) {
                int image = i;
                CHECK.throwsDue("none", IllegalStateException.class, () -> {
                    park.restore(image);
                    return 0;
                });
            }
            park.image(0);
            Check.lay(park, "park 3 2;wall 0 1;hedge 1 1 yew 9;walker 0 0;errand 0 1 1 7;grows 1=1;winter 2;");
            park.nights(1);
            park.clip(4, 2);
            park.walk(0, 1);
            String look = Look.at(park);
            park.image(1);
            park.undo(2);
            park.image(2);
            String earlier = Look.at(park);
            park.restore(1);
            due("deeds too", park.count(8), 3);
            CHECK.due("as it was", Look.at(park), look);
            park.restore(2);
            CHECK.due("as it was", Look.at(park), earlier);
            park.tray(0, 0, 1);
            Check.lay(park, "park 2 9;");
            Check.feed(park, "park 2 2;");
            park.restore(0);
            due("no cells", park.count(1), 0);
            due("no night", park.count(4), 0);
            due("the tape", park.count(9), 20);
            due("the fault", park.fault(0), 3);
            due("its place", park.fault(1), 7);
            due("the tray", park.write(0, 0, 9), 9);
            park.restore(1);
            due("deeds", park.undo(3), 0);
            due("as told", park.cell(4, 1), 9);
        });
        test("An object is used for at most 512 calls after it has been made", () -> {
            HedgePark park = new HedgePark();
            Check.feed(park, "park 2 2;wall 1 1;hedge 1 0 box 1;walker 0 0 age 999;grows 1=1;");
            due("lines", park.park(63), 5);
            for (int i = 0; i < 250; i++) {
                due("growth", park.nights(99), i == 0 ? 59 : 0);
                due("a walk", park.walk(0, i % 2 == 0 ? 1 : 0), i % 2 == 0 ? 61 : 1);
            }
            due("nights", park.count(4), 24750);
            due("age", park.walker(0, 1), 999 + 125 * 62);
            due("deeds", park.undo(10), 0);
        });
    }

    // ---- ways, errands, walls, walks

    /** Along one row the costs are 10, 19, 28. */
    private static final String ROW = "park 4 2;wall 0 1;wall 1 1;wall 2 1;wall 3 1;hedge 1 0 box 9;hedge 2 0 yew 9;"
            + "hedge 3 0 beech 9;walker 0 0;walker 0 0 free;";

    private static void theWays() {
        test("of like ones the first: at each step the least CELL. (To where it stands: none, 0.)", () -> {
            HedgePark park = Check.of("park 3 3;hedge 2 2 beech 60;walker 2 2;walker 0 0;");
            int[] back = {8, 5, 2, 1, 0};
            for (int i = 0; i < back.length; i++) {
                due("step " + i, park.way(0, 0, i), back[i]);
            }
            int[] there = {0, 1, 2, 5, 8};
            for (int i = 0; i < there.length; i++) {
                due("step " + i, park.way(1, 8, i), there[i]);
            }
            due("steps to where it stands", park.way(0, 8, NONE), 0);
            due("it begins there", park.way(0, 8, 0), 8);
            due("and ends there", park.way(0, 8, 1), NONE);
            due("for nothing, though on a hedge", park.soonest(0, 8), 0);
            due("one walk", park.ways(0, 8), 1);
            due("by no steps", park.within(0, 8, 0), 0);
            due("none cleared", park.cleared(0, 8, 36), 0);
            due("none to clip", park.clipFor(0, 8, 0, 0), 0);
            due("a walk", park.walk(0, 8), 0);
            due("time", park.count(5), 0);
        });
        test("that with the least COST in all, as all is now", () -> {
            HedgePark park = Check.of("park 3 2;hedge 1 0 box 3;walker 0 0;winter 2;");
            due("round it, for 4 as through it for 5", park.way(0, 2, NONE), 4);
            due("cost", park.soonest(0, 2), 4);
            park.clip(1, 1);
            due("both for 4", park.ways(0, 2), 2);
            due("the first", park.way(0, 2, 1), 1);
            park.clip(1, 1);
            due("through it", park.soonest(0, 2), 3);
        });
        test("By at most n steps: the least COST of those with so few.", () -> {
            HedgePark park = Check.of("park 3 2;hedge 1 0 box 3;walker 0 0;");
            long[] costs = {NONE, NONE, 5, 5, 4, 4};
            for (int n = 0; n < costs.length; n++) {
                due("by " + n, park.within(0, 2, n), costs[n]);
            }
            due("by 99", park.within(0, 2, 99), 4);
        });
        test("CLEARED m: the least COST, if at most m hedges on it COST but 1.", () -> {
            HedgePark park = Check.of(ROW);
            long[] costs = {57, 30, 12, 3, 3};
            for (int m = 0; m < costs.length; m++) {
                due("cleared " + m, park.cleared(0, 3, m), costs[m]);
                due("free " + m, park.cleared(1, 3, m), 3);
            }
            due("cleared 36", park.cleared(0, 3, 36), 3);
        });
        test("TO CLIP FOR: the fewest hedges that, made paths, let the WALKER come to a CELL for at most so much; what it COSTS then at least.", () -> {
            HedgePark park = Check.of(ROW);
            int[][] row = {{57, 0, 57}, {58, 0, 57}, {56, 1, 30}, {30, 1, 30}, {29, 2, 12}, {12, 2, 12}, {11, 3, 3},
                {3, 3, 3}, {2, NONE, NONE}, {0, NONE, NONE}};
            for (int[] one : row) {
                due("hedges for " + one[0], park.clipFor(0, 3, one[0], 0), one[1]);
                due("cost for " + one[0], park.clipFor(0, 3, one[0], 1), one[2]);
            }
            due("free", park.clipFor(1, 3, 3, 0), 0);
            due("not for less", park.clipFor(1, 3, 2, 0), NONE);
        });
    }

    private static void theErrands() {
        test("each by its WAY from the one ahead, from TIME as it is: the first that comes behind its TIME is LATE.", () -> {
            HedgePark park = Check.of("park 3 2;walker 0 0;errand 0 2 0 2;errand 0 2 0 2;errand 0 0 0 4;errand 0 2 1 6;");
            due("cost", park.round(0, 0), 7);
            due("just in time but the last", park.round(0, 1), 3);
            due("one", park.round(0, 2), 1);
            park.walk(0, 1);
            due("cost from there", park.round(0, 0), 6);
            due("from time 1 all but the last are in time", park.round(0, 1), 3);
            park.walk(0, 0);
            due("from time 2 all are late", park.round(0, 2), 4);
            due("the first", park.round(0, 1), 0);
            park.nights(1);
            due("from time 0 again", park.round(0, 2), 1);
        });
        test("BEST ORDER: the order by which fewest are LATE, of like ones that with the least COST, of like ones the first.", () -> {
            HedgePark fewest = Check.of("park 2 2;walker 0 0;errand 0 1 0 0;errand 0 0 1 1;");
            due("one late", fewest.bestOrder(0, 0), 1);
            due("the second first", fewest.bestOrder(0, 10), 1);
            due("the first second", fewest.bestOrder(0, 11), 0);
            HedgePark least = Check.of("park 6 2;walker 2 0;errand 0 5 0 99;errand 0 0 0 99;");
            due("none late", least.bestOrder(0, 0), 0);
            due("2 and 5", least.bestOrder(0, 1), 7);
            due("the nearer first", least.bestOrder(0, 10), 1);
            HedgePark like = Check.of("park 2 2;walker 0 0;errand 0 0 0 9;errand 0 0 0 9;errand 0 0 0 9;errand 0 0 0 9;");
            for (int i = 0; i < 4; i++) {
                due("of like ones the first", like.bestOrder(0, 10 + i), i);
            }
            HedgePark lateLike = Check.of("park 3 2;walker 1 0;errand 0 2 0 0;errand 0 0 0 0;errand 0 1 0 0;");
            due("the one where it stands is in time", lateLike.bestOrder(0, 0), 2);
            due("it is first", lateLike.bestOrder(0, 10), 2);
            due("then the first of like ones", lateLike.bestOrder(0, 11), 0);
            due("cost", lateLike.bestOrder(0, 1), 3);
        });
        test("a CELL for which the greater of both COSTS is least (fair), or both together (cheap), of like ones the first.", () -> {
            HedgePark park = Check.of("park 4 2;walker 0 0;walker 3 0;walker 3 0;");
            due("fair, of two the first", park.meet(0, 1, true, 0), 1);
            due("the greater", park.meet(0, 1, true, 1), 2);
            due("cheap, of four the first", park.meet(1, 0, false, 0), 0);
            due("both", park.meet(1, 0, false, 1), 3);
            due("on one cell", park.meet(1, 2, true, 0), 3);
            due("for nothing", park.meet(1, 2, false, 1), 0);
        });
        test("SHUT OFF: how many CELLS (not those of the WALKER, the CELL itself) must be walls so that there is no WAY; none, if they are beside or one.", () -> {
            HedgePark park = Check.of("park 6 6;walker 1 1;walker 0 0;walker 1 0;");
            due("four", park.shutOff(0, 28), 4);
            due("two", park.shutOff(1, 28), 2);
            due("three", park.shutOff(2, 28), 3);
            due("a corner", park.shutOff(0, 35), 2);
            due("aslant", park.shutOff(1, 7), 2);
            for (int k : new int[] {7, 1, 6, 8, 13}) {
                due("beside or one", park.shutOff(0, k), NONE);
            }
            due("none at the row's end", Check.of("park 6 2;walker 5 0;").shutOff(0, 6), 2);
        });
        test("NEEDED: CELLS on all that go to it (any walk), but both ends.", () -> {
            HedgePark park = Check.of(ROW);
            due("all between", park.needed(0, 3), 6);
            due("one between", park.needed(0, 2), 2);
            due("beside: none", park.needed(0, 1), 0);
            due("where it stands: none", park.needed(0, 0), 0);
            due("a dear one isn't the only one", Check.of("park 3 2;hedge 0 1 beech 60;walker 0 0;").needed(0, 2), 0);
        });
    }

    private static void theWalks() {
        test("A WALK that took just t quarters (0 to 30): any row of CELLS from where the WALKER stands to a CELL, each beside the one ahead (also ones again), with that COST.", () -> {
            HedgePark park = Check.of("park 2 2;walker 0 0;");
            due("none at all", park.walks(0, 0, 0), 1);
            due("elsewhere none", park.walks(0, 1, 0), 0);
            due("there and back, twice", park.walks(0, 0, 4), 8);
            due("30", park.walks(0, 0, 30), 1L << 29);
            due("30 to an odd one", park.walks(0, 1, 30), 0);
            due("29", park.walks(0, 1, 29), 1L << 28);
            HedgePark hedge = Check.of("park 2 2;wall 0 1;hedge 1 0 box 29;walker 0 0;");
            due("one step for 30", hedge.walks(0, 1, 30), 1);
            due("one step for no less", hedge.walks(0, 1, 29), 0);
            HedgePark dearer = Check.of("park 2 2;wall 0 1;hedge 1 0 box 30;walker 0 0;");
            due("one step for 31", dearer.walks(0, 1, 30), 0);
        });
        test("BEEN: CELLS on some such (both ends, too). THROUGH: how many of these come by a CELL (an end, too).", () -> {
            HedgePark park = Check.of("park 3 2;walker 0 0;");
            due("been", park.been(0, 2, 2), 7);
            due("been in none", park.been(0, 2, 1), 0);
            due("been where it stands", park.been(0, 0, 0), 1);
            long all = park.walks(0, 2, 4);
            due("by its begin", park.through(0, 2, 4, 0), all);
            due("by its end", park.through(0, 2, 4, 2), all);
            // two steps from 0 lead twice to 0, once to 2, twice to 4; two from these to 2: once, twice, twice
            due("all", all, 8);
            due("by cell 1", park.through(0, 2, 4, 1), 7);
        });
        test("TELLS MOST: the CELL for which those that come by and those that don't are most even: the lesser number is greatest, the first.", () -> {
            HedgePark park = Check.of("park 2 2;walker 0 0;");
            due("one of two by 1, one by 2", park.tells(0, 3, 2), 1);
            due("none such", park.tells(0, 3, 3), NONE);
            due("one alone", park.tells(0, 0, 0), 0);
            due("one alone, the first cell being a wall", Check.of("park 2 2;wall 0 0;walker 1 0;").tells(0, 3, 1), 0);
        });
    }

    /** What a decade does, by calls of its own and draws among numbers without a sign. */
    private static int decadeByCalls(HedgePark park, int seed, int times) {
        long x = seed & 0xffffffffL;
        int cells = park.count(1) * park.count(2);
        int done = 0;
        for (int i = 0; i < times; i++) {
            long[] d = new long[4];
            long y = x;
            for (int j = 0; j < 4; j++) {
                y = 1103515245L * y + 12345 & 0xffffffffL;
                d[j] = y / 65536;
                x = j == 0 ? y : x;
            }
            int deed = (int) (d[0] % 4);
            int draws = deed == 0 ? 0 : deed == 2 ? 1 : 2;
            if (deed == 1 && park.count(3) == 0) {
                continue;
            }
            for (int j = 0; j < draws; j++) {
                x = 1103515245L * x + 12345 & 0xffffffffL;
            }
            String got;
            switch (deed) {
                case 0:
                    got = Check.outcome(() -> park.nights(1));
                    break;
                case 1:
                    got = Check.outcome(() -> park.walk((int) (d[1] % park.count(3)), (int) (d[2] % cells)));
                    break;
                case 2:
                    got = Check.outcome(() -> park.clip((int) (d[1] % cells), 1));
                    break;
                default:
                    got = Check.outcome(() -> park.plant((int) (d[1] % cells), (int) (1 + d[2] % 3)));
                    break;
            }
            done += got.equals("-1") || got.endsWith("Exception") ? 0 : 1;
        }
        return done;
    }

    private static void theDecades() {
        test("A DECADE by a SEED (x, an int; a DRAW: x becomes 1103515245 x + 12345, it is x >>> 16): so many times (1 to 30)", () -> {
            String[] parks = {"park 2 2;wall 1 1;hedge 1 0 box 2;walker 0 0;grows 1=1;",
                "park 6 6;walker 5 5;walker 0 0 free;walker 3 3;hedge 2 2 yew 3;grows near=0;winter 2;",
                "park 3 2;hedge 2 1 box 9;"};
            int[] seeds = {0, 1, 2, 3, 4, 5, 7, 99, 12345, -1, -2, -12345, Integer.MIN_VALUE, Integer.MAX_VALUE, 1 << 16,
                1 << 30, 0x7fff8000};
            for (String text : parks) {
                for (int seed : seeds) {
                    for (int times : new int[] {1, 2, 9, 29, 30}) {
                        HedgePark one = Check.of(text);
                        HedgePark other = Check.of(text);
                        due("decade(" + seed + ", " + times + ")", one.decade(seed, times), decadeByCalls(other, seed, times));
                        CHECK.due("what is seen behind it", Look.back(one), Look.back(other));
                    }
                }
            }
        });
        test("(without WALKERS: nothing, no DRAWS)", () -> {
            // 4 draws 1817, modulo 4 it is 1: a walk; the next draw, 56934, is the next deed then: 2, of cell 43259 modulo 4
            HedgePark park = Check.of("park 2 2;hedge 1 1 box 5;");
            due("nothing could be", park.decade(4, 1), 0);
            due("no deed", park.count(8), 0);
            due("the next draw is a deed", park.decade(4, 2), 1);
            due("clipped", park.cell(3, 1), 4);
        });
        test("Of several throws of a call that one comes that is told first. A call that throws changes nothing.", () -> {
            HedgePark park = Check.of("park 2 2;hedge 1 0 box 2;walker 0 0;walker 0 1;");
            park.nights(1);
            String look = Look.back(park);
            CHECK.throwsDue("clip", IllegalStateException.class, () -> park.clip(0, 0));
            CHECK.throwsDue("plant", IllegalArgumentException.class, () -> park.plant(1, 0));
            CHECK.throwsDue("judge", IllegalStateException.class, () -> park.judge(0, 9));
            CHECK.throwsDue("decade", IllegalArgumentException.class, () -> new HedgePark().decade(0, 0));
            CHECK.throwsDue("meet", java.util.NoSuchElementException.class, () -> park.meet(2, 2, true, 9));
            CHECK.throwsDue("write", IllegalStateException.class, () -> park.write(0, 99, 0));
            CHECK.due("what is seen behind all that", Look.back(park), look);
        });
    }

    public static void main(String[] args) {
        theText();
        theLaw();
        theSize();
        theWalkers();
        theTokens();
        theCosts();
        theNights();
        theDeeds();
        theToldDeeds();
        theWays();
        theErrands();
        theWalks();
        theDecades();
        theRest();
        SENTENCES.needAll(0, 0);
        CHECK.end("TermsEdgesTest");
    }
}
