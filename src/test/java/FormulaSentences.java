/** What the document says of texts and formulas ahead of its promises. */
final class FormulaSentences {
    private static final int NONE = Daemonsheet.NONE;

    private FormulaSentences() {
    }

    private static void areFormulas(String... texts) {
        for (String text : texts) {
            Sheet.faultDue(text, NONE);
        }
    }

    private static void worthDue(String text, int want) {
        Check.due("worth of " + text, Sheet.worthOf(text), want);
    }

    // ---- texts that are formulas, and where others go wrong

    @Sentence(promise = 2, ahead = true, says = "The text is typed letter by letter.")
    static void p02_letterByLetter() {
        String text = "1+c10*m(2,3)";
        int[] faults = {NONE, 2, 3, NONE, NONE, 6, 7, 8, 9, 10, 11, NONE};
        Daemonsheet x = new Daemonsheet();
        for (int i = 0; i < faults.length; i++) {
            x.type(text.charAt(i));
            Check.due("fault behind letter " + i, x.fault(), faults[i]);
        }
    }

    @Sentence(promise = 5, ahead = true, says = "formulas that are typed,")
    static void p05_formulasThatAreTyped() {
        Daemonsheet x = new Daemonsheet();
        x.type('2');
        x.type('+');
        Check.illegal("formula of 2+", () -> x.formula(0));
        x.type('3');
        x.formula(0);
        Check.due("value of 2+3", x.value(0), 5);
    }

    @Sentence(promise = 4, ahead = true,
            says = "It is a formula if it is a sum, or a sum, one of < > =, and a sum;")
    static void p04_aSumOrTwoCompared() {
        areFormulas("1", "1<2", "1>2", "1=2", "1+2<3*4", "(1<2)=(3>4)");
        Sheet.faultDue("1<", 2);
        Sheet.faultDue("<1", 0);
        Sheet.faultDue("1<>2", 2);
        Sheet.faultDue("1==2", 2);
        Sheet.faultDue("1<2<3", 3);
        Sheet.faultDue("1>2=3", 3);
        Sheet.faultDue("1=2+3>4", 5);
    }

    @Sentence(promise = 4, ahead = true, says = "where a sum is a product, and any number of times "
            + "+ or - and a product behind it;")
    static void p04_sums() {
        areFormulas("1", "1+2", "1-2", "1+2-3", "1+-2", "1--2", "1*2+3*4",
                "1+1+1+1+1+1+1+1+1+1+1+1+1+1+1", "1-1-1-1-1-1-1-1-1-1-1-1-1-1-1");
        Sheet.faultDue("1+", 2);
        Sheet.faultDue("+1", 0);
        Sheet.faultDue("1++2", 2);
        Sheet.faultDue("1-+2", 2);
        Sheet.faultDue("1+)", 2);
    }

    @Sentence(promise = 4, ahead = true,
            says = "a product is a part, and any number of times * and a part behind it;")
    static void p04_products() {
        areFormulas("1", "1*2", "1*-2", "1*2*3", "1*1*1*1*1*1*1*1*1*1*1*1*1*1*1");
        Sheet.faultDue("1*", 2);
        Sheet.faultDue("*1", 0);
        Sheet.faultDue("1**2", 2);
        Sheet.faultDue("1*+2", 2);
        Sheet.faultDue("1*<2", 2);
    }

    @Sentence(promise = 4, ahead = true, says = "and a part is a number of 1 to 4 figures;")
    static void p04_numbers() {
        areFormulas("0", "9", "10", "999", "9999", "00", "0000", "0001");
        Sheet.faultDue("00000", 4);
        Sheet.faultDue("10000", 4);
        Sheet.faultDue("1+99999", 6);
        Sheet.faultDue("123456", 4);
        worthDue("9999", 9999);
        worthDue("0009", 9);
    }

    @Sentence(promise = 4, ahead = true,
            says = "the letter c and the number of a cell (0 to 11, in figures as few as it has);")
    static void p04_cells() {
        for (int i = 0; i < 12; i++) {
            areFormulas("c" + i);
        }
        Sheet.faultDue("c", 1);
        Sheet.faultDue("cc", 1);
        Sheet.faultDue("c-1", 1);
        Sheet.faultDue("c00", 2);
        Sheet.faultDue("c01", 2);
        Sheet.faultDue("c09", 2);
        Sheet.faultDue("c011", 2);
        for (int i = 12; i < 100; i++) {
            Sheet.faultDue("c" + i, 2);
        }
        Sheet.faultDue("c100", 3);
        Sheet.faultDue("c110", 3);
        Sheet.faultDue("c111", 3);
    }

    @Sentence(promise = 4, ahead = true, says = "the letter r and that of a reading;")
    static void p04_readings() {
        areFormulas("r0", "r1", "r2", "r3", "r4");
        Sheet.faultDue("r", 1);
        Sheet.faultDue("r(", 1);
        for (int i = 5; i < 10; i++) {
            Sheet.faultDue("r" + i, 1);
        }
        for (int i = 0; i < 5; i++) {
            Sheet.faultDue("r0" + i, 2);
            Sheet.faultDue("r1" + i, 2);
        }
    }

    @Sentence(promise = 4, ahead = true, says = "the letter l and that of a service;")
    static void p04_loads() {
        areFormulas("l0", "l1", "l2", "l3", "l4");
        Sheet.faultDue("l", 1);
        Sheet.faultDue("lr", 1);
        for (int i = 5; i < 10; i++) {
            Sheet.faultDue("l" + i, 1);
        }
        for (int i = 0; i < 5; i++) {
            Sheet.faultDue("l0" + i, 2);
            Sheet.faultDue("l4" + i, 2);
        }
    }

    @Sentence(promise = 4, ahead = true, says = "- and a part;")
    static void p04_minus() {
        areFormulas("-1", "--1", "-(1)", "-c11", "-r4", "-l4", "-m(1,2)", "-i(1,2,3)", "1*--1",
                "-----------------------------1");
        Sheet.faultDue("-", 1);
        Sheet.faultDue("-*1", 1);
        Sheet.faultDue("-<1", 1);
        Sheet.faultDue("------------------------------", 30);
        worthDue("-2*3", -6);
        worthDue("-2+3", 1);
    }

    @Sentence(promise = 4, ahead = true, says = "( and a formula and );")
    static void p04_brackets() {
        areFormulas("(1)", "((1))", "(1<2)", "(1)*(2)", "((((((((((((((1))))))))))))))");
        Sheet.faultDue("(", 1);
        Sheet.faultDue("()", 1);
        Sheet.faultDue("(1", 2);
        Sheet.faultDue("(1,2)", 2);
        Sheet.faultDue("(1<2<3)", 4);
        Sheet.faultDue("(1))", 3);
        Sheet.faultDue("(1)(2)", 3);
        Sheet.faultDue("(((((((((((((((1))))))))))))))", 30);
    }

    @Sentence(promise = 4, ahead = true,
            says = "the letter m or n, (, a formula, a comma, a formula and );")
    static void p04_greaterAndLesser() {
        for (String letter : new String[] {"m", "n"}) {
            areFormulas(letter + "(1,2)", letter + "(1<2,3=4)", letter + "((1),-2)*3",
                    letter + "(m(1,2),n(3,4))");
            Sheet.faultDue(letter, 1);
            Sheet.faultDue(letter + "1", 1);
            Sheet.faultDue(letter + letter, 1);
            Sheet.faultDue(letter + "(", 2);
            Sheet.faultDue(letter + "()", 2);
            Sheet.faultDue(letter + "(,1)", 2);
            Sheet.faultDue(letter + "(1)", 3);
            Sheet.faultDue(letter + "(1,)", 4);
            Sheet.faultDue(letter + "(1,2", 5);
            Sheet.faultDue(letter + "(1,2,3)", 5);
            Sheet.faultDue(letter + "(1<2<3,4)", 5);
        }
    }

    @Sentence(promise = 4, ahead = true,
            says = "or the letter i, (, three formulas with commas between them, and ).")
    static void p04_choice() {
        areFormulas("i(1,2,3)", "i(1<2,3>4,5=6)", "i(i(1,2,3),m(4,5),-6)+7");
        Sheet.faultDue("i", 1);
        Sheet.faultDue("i1", 1);
        Sheet.faultDue("i()", 2);
        Sheet.faultDue("i(1)", 3);
        Sheet.faultDue("i(1,2)", 5);
        Sheet.faultDue("i(1,2,)", 6);
        Sheet.faultDue("i(1,2,3", 7);
        Sheet.faultDue("i(1,2,3,4)", 7);
    }

    @Sentence(promise = 4, ahead = true, says = "The fault of a text is the place, from 0 on, of "
            + "the first letter with which no formula could go on there;")
    static void p04_theFirstWrongLetter() {
        Sheet.faultDue(")", 0);
        Sheet.faultDue(",", 0);
        Sheet.faultDue("=", 0);
        Sheet.faultDue("1)", 1);
        Sheet.faultDue("1,2", 1);
        Sheet.faultDue("1c", 1);
        Sheet.faultDue("1+*2)(", 2);
        Sheet.faultDue("m(1)+c99", 3);
        Sheet.faultDue("(1+)", 3);
        Sheet.faultDue("-----------------------------)", 29);
        Sheet.faultDue("1-----------------------------", 30);
    }

    @Sentence(promise = 4, ahead = true, says = "its length, if it is only too short;")
    static void p04_tooShort() {
        Sheet.faultDue("", 0);
        Sheet.faultDue("c", 1);
        Sheet.faultDue("1+", 2);
        Sheet.faultDue("i(1,2", 5);
        Sheet.faultDue("((((((((((((((((((((((((((((((", 30);
        Sheet.faultDue("m(m(m(m(m(m(m(m(m(m(m(m(m(m(m(", 30);
        Sheet.faultDue("1+1+1+1+1+1+1+1+1+1+1+1+1+1+1+", 30);
    }

    @Sentence(promise = 4, ahead = true, says = "NONE if it is a formula.")
    static void p04_noFault() {
        areFormulas("0", "c11", "(1+1+1+1+1+1+1+1+1+1+1+1+1+1)",
                "1+1+1+1+1+1+1+1+1+1+1+1+1+1+11");
    }

    // ---- what formulas come to

    @Sentence(promise = 5, ahead = true, says = "Sums and products go on from the left to the right.")
    static void p05_fromTheLeftToTheRight() {
        worthDue("10-3-2", 5);
        worthDue("10-3+2", 9);
        worthDue("2*3-4*5-6", -20);
        worthDue("1000*1000+1-1", 999999);
        worthDue("2-3*4+1", -9);
    }

    @Sentence(promise = 5, ahead = true, says = "< > = are 1 if so, otherwise 0;")
    static void p05_comparisons() {
        worthDue("2<3", 1);
        worthDue("3<3", 0);
        worthDue("4<3", 0);
        worthDue("4>3", 1);
        worthDue("3>3", 0);
        worthDue("2>3", 0);
        worthDue("3=3", 1);
        worthDue("2=3", 0);
        worthDue("4=3", 0);
        worthDue("-1<0", 1);
        worthDue("-1000*1000<1000*1000", 1);
        worthDue("9999*9999=1000*1000", 1);
    }

    @Sentence(promise = 5, ahead = true, says = "m is the greater one of both, n the lesser one;")
    static void p05_greaterAndLesser() {
        worthDue("m(3,4)", 4);
        worthDue("m(4,3)", 4);
        worthDue("m(3,3)", 3);
        worthDue("m(-3,-4)", -3);
        worthDue("n(3,4)", 3);
        worthDue("n(4,3)", 3);
        worthDue("n(3,3)", 3);
        worthDue("n(-3,-4)", -4);
    }

    @Sentence(promise = 5, ahead = true, says = "i is the second one if the first one is above 0, "
            + "otherwise the third one;")
    static void p05_choice() {
        worthDue("i(2,7,8)", 7);
        worthDue("i(1,7,8)", 7);
        worthDue("i(0,7,8)", 8);
        worthDue("i(-1,7,8)", 8);
    }

    @Sentence(promise = 5, ahead = true, says = "c, r and l are the value of the cell, the reading, "
            + "and the load that the service tells.")
    static void p05_names() {
        Daemonsheet x = Sheet.wanted(6, 0);
        Sheet.set(x, 1, "c11");
        Sheet.set(x, 2, "r4");
        Sheet.set(x, 3, "l0");
        Sheet.set(x, 11, "5");
        x.read(4, -8);
        x.lie(0, 9);
        Check.due("c11", x.value(1), 5);
        x.hold(11, 3);
        Check.due("c11 held", x.value(1), 3);
        Check.due("r4", x.value(2), -8);
        Check.due("l0 that lies", x.value(3), 9);
        x.lie(0, NONE);
        Check.due("l0", x.value(3), 6);
    }

    @Sentence(promise = 5, ahead = true,
            says = "What comes of each of these is kept within -1000000 to 1000000.")
    static void p05_keptWithin() {
        worthDue("999*1001", 999999);
        worthDue("999*1001+1", 1000000);
        worthDue("999*1001+2", 1000000);
        worthDue("-999*1001-1", -1000000);
        worthDue("-999*1001-2", -1000000);
        worthDue("1000*1000", 1000000);
        worthDue("1001*1000", 1000000);
        worthDue("-1001*1000", -1000000);
        worthDue("1001*1000-1", 999999);
        worthDue("-1001*1000+1", -999999);
        worthDue("9999*9999*(9999*9999)", 1000000);
        worthDue("-(9999*9999)*(9999*9999)", -1000000);
        worthDue("-(-9999*9999)", 1000000);
        worthDue("9999*9999*0", 0);
    }
}
