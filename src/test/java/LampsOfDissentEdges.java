import java.lang.reflect.Method;
import java.lang.reflect.Modifier;
import java.util.Arrays;
import java.util.Comparator;
import java.util.List;
import java.util.function.Function;
import java.util.function.Supplier;
import java.util.function.ToIntFunction;

/**
 * For each sentence of the document that names a boundary case a test of its own, named after the promise's number:
 * the last input that is still allowed, the first that is not, and that a refused call changes nothing.
 */
public final class LampsOfDissentEdges {
    private static final int BAD = -1, NO = -2, FULL = -3, NONE = -4;
    private static final int LEAST = Integer.MIN_VALUE, MOST = Integer.MAX_VALUE;
    private static final String FIRST_TEXT =
        "h3;p0,5,4,0;p0,10,3,0;p3,7,6,1;p1,24,2,1;p2,7,5,2;p0,23,1,2;w0,6;w1,4;w2,9;s31;s7;";
    private static final String EIGHT_PEOPLE = "p0,1,0,0;p0,0,0,0;".repeat(4);
    // in each HOUR the two are AT ODDS and stay at TEMPER 9: LIGHT is 5 for each SUBJECT told
    private static final String SEVEN_TOLD = "h1;p0,31,9,0;p0,0,9,0;s1;s3;s7;s15;s31;s3;s0;";

    /** What an object shows from here on; each takes an object of its own, since some of them act on it. */
    private static final List<Function<LampsOfDissent, String>> TELLINGS = List.of(
        LampsOfDissentEdges::tellCity, LampsOfDissentEdges::tellWhatWouldBe, LampsOfDissentEdges::tellUndone,
        LampsOfDissentEdges::tellKept, LampsOfDissentEdges::tellText, LampsOfDissentEdges::tellPassing);

    private static String test = "";
    private static int wrong = 0;

    public static void main(String[] args) throws ReflectiveOperationException {
        Method[] methods = LampsOfDissentEdges.class.getDeclaredMethods();
        Arrays.sort(methods, Comparator.comparing(Method::getName));
        boolean[] tested = new boolean[31];
        int ran = 0;
        for (Method method : methods) {
            if (method.getName().matches("promise\\d\\d\\w+") && Modifier.isStatic(method.getModifiers())) {
                test = method.getName();
                tested[Integer.parseInt(test.substring(7, 9))] = true;
                method.invoke(null);
                ran++;
            }
        }
        for (int promise = 1; promise <= 30; promise++) {
            test = "promise " + promise;
            check("has a test", tested[promise]);
        }
        System.out.println(wrong == 0 ? ran + " edges are as due" : wrong + " answers are not as due");
        if (wrong != 0) {
            System.exit(1);
        }
    }

    // ---- what the tests are made of

    private static void check(String what, boolean so) {
        if (!so) {
            wrong++;
            System.out.println(test + ": " + what + " is not so");
        }
    }

    private static void due(String call, int got, int want) {
        if (got != want) {
            wrong++;
            System.out.println(test + ": " + call + " answered " + got + ", due is " + want);
        }
    }

    private static LampsOfDissent written(String text) {
        LampsOfDissent x = new LampsOfDissent();
        for (char letter : text.toCharArray()) {
            x.write(letter);
        }
        return x;
    }

    private static LampsOfDissent city(String text) {
        LampsOfDissent x = written(text);
        check(text + " laid", x.lay() > 0);
        return x;
    }

    private static final String BUSY_TEXT = "h2;p0,1,3,0;p2,6,0,0;w1,2;s5;";

    /** A city in which every kind of state is there, so that a change of any can be shown. */
    private static LampsOfDissent busy() {
        return seeing(acting(written(BUSY_TEXT)));
    }

    private static LampsOfDissent acting(LampsOfDissent x) {
        x.pass(3);
        x.ration(1);
        x.keep();
        x.move(0, 1);
        x.alter(3, 2);
        x.alter(5, 4);
        x.pass(1);
        return x;
    }

    private static LampsOfDissent seeing(LampsOfDissent x) {
        x.seen(1, x.light(1, 0));
        x.seen(0, x.light(0, 0));
        return x;
    }

    private static LampsOfDissent later(int hour) {
        return later(new LampsOfDissent(), hour);
    }

    private static LampsOfDissent later(LampsOfDissent x, int hour) {
        for (int left = hour; left > 0; left -= Math.min(30, left)) {
            x.pass(Math.min(30, left));
        }
        return x;
    }

    /** The call is refused, and what comes later is as if it had never been. */
    private static void refused(Supplier<LampsOfDissent> made, String told, ToIntFunction<LampsOfDissent> call, int want) {
        for (Function<LampsOfDissent, String> telling : TELLINGS) {
            LampsOfDissent x = made.get();
            due(told, call.applyAsInt(x), want);
            String got = telling.apply(x);
            String due = telling.apply(made.get());
            check("nothing changes by " + told + ": " + got + " for " + due, got.equals(due));
        }
    }

    private static void bad(String told, ToIntFunction<LampsOfDissent> call) {
        refused(LampsOfDissentEdges::busy, told, call, BAD);
    }

    /** A call that asks and does not act. */
    private static void asks(String told, ToIntFunction<LampsOfDissent> call) {
        for (Function<LampsOfDissent, String> telling : TELLINGS) {
            LampsOfDissent x = busy();
            call.applyAsInt(x);
            String got = telling.apply(x);
            String due = telling.apply(busy());
            check("nothing changes by " + told + ": " + got + " for " + due, got.equals(due));
        }
    }

    private static void alike(Supplier<LampsOfDissent> one, Supplier<LampsOfDissent> other) {
        for (Function<LampsOfDissent, String> telling : TELLINGS) {
            String got = telling.apply(one.get());
            String due = telling.apply(other.get());
            check("alike: " + got + " and " + due, got.equals(due));
        }
    }

    private static String tellCity(LampsOfDissent x) {
        StringBuilder told = new StringBuilder("counts");
        for (int what = 0; what <= 8; what++) {
            told.append(' ').append(x.count(what));
        }
        told.append(" people");
        for (int i = 0; i < 8; i++) {
            for (int what = 0; what <= 4; what++) {
                told.append(' ').append(x.person(i, what));
            }
        }
        told.append(" works");
        for (int k = 0; k < 5; k++) {
            for (int what = 0; what <= 2; what++) {
                told.append(' ').append(x.work(k, what));
            }
        }
        told.append(" light");
        for (int d = 0; d < 9; d++) {
            told.append(' ').append(x.light(-1, d)).append(' ').append(x.light(0, d)).append(' ').append(x.lit(d));
        }
        return told.append(" fault ").append(x.fault()).toString();
    }

    private static String tellWhatWouldBe(LampsOfDissent x) {
        StringBuilder told = new StringBuilder("people");
        for (int i = 0; i < 8; i++) {
            told.append(' ').append(x.homes(i)).append(' ').append(x.married(i)).append(' ').append(x.apart(0, i, 0));
            told.append(' ').append(x.may(i, 0)).append(' ').append(x.may(i, 1));
        }
        told.append(" houses");
        for (int h = 0; h < 5; h++) {
            told.append(' ').append(x.reach(h)).append(' ').append(x.falseBy(h, 3, 0)).append(' ').append(x.falseBy(h, 3, 1));
        }
        told.append(" all ").append(x.first()).append(' ').append(x.homes(-1)).append(' ').append(x.homes(-2));
        told.append(' ').append(x.talk(2, -1)).append(' ').append(x.talk(2, 0)).append(' ').append(x.talk(2, 1));
        told.append(' ').append(x.settles()).append(' ').append(x.smokes());
        told.append(' ').append(x.winter(5, 9, 0)).append(' ').append(x.winter(5, 9, 1));
        return told.append(' ').append(x.forget()).append(' ').append(x.may(0, 0)).toString();
    }

    private static void tellShort(LampsOfDissent x, StringBuilder told) {
        told.append(" hour ").append(x.count(3)).append(" light ").append(x.light(-1, 0));
        told.append(' ').append(x.light(-1, 1)).append(' ').append(x.count(4));
        for (int i = 0; i < 8; i++) {
            told.append(' ').append(x.person(i, 1)).append(' ').append(x.person(i, 2)).append(' ').append(x.person(i, 3));
        }
    }

    private static String tellUndone(LampsOfDissent x) {
        StringBuilder told = new StringBuilder();
        for (int k = 0; k < 9; k++) {
            told.append(" undo ").append(x.undo());
            tellShort(x, told);
        }
        return told.toString();
    }

    private static String tellKept(LampsOfDissent x) {
        StringBuilder told = new StringBuilder();
        for (int k = 0; k < 3; k++) {
            told.append(" back ").append(x.back()).append(' ').append(x.count(6)).append(' ').append(x.count(5));
            tellShort(x, told);
        }
        return told.toString();
    }

    private static String tellText(LampsOfDissent x) {
        StringBuilder told = new StringBuilder("fault ").append(x.fault()).append(" lay ").append(x.lay());
        tellShort(x, told);
        for (int k = 0; k < 5; k++) {
            told.append(' ').append(x.work(k, 0)).append(' ').append(x.work(k, 1));
        }
        return told.append(' ').append(x.write('h')).append(' ').append(x.fault()).append(' ').append(x.wipe()).toString();
    }

    private static String tellPassing(LampsOfDissent x) {
        StringBuilder told = new StringBuilder();
        for (int k = 0; k < 4; k++) {
            told.append(" pass ").append(x.pass(1));
            tellShort(x, told);
        }
        return told.append(" seen ").append(x.seen(0, 0)).append(" keep ").append(x.keep()).append(' ').append(x.count(6)).toString();
    }

    // ---- cities

    static void promise01TheFirstCityIsLaidAndTheTextIsEmpty() {
        alike(LampsOfDissent::new, () -> {
            LampsOfDissent x = city(FIRST_TEXT);
            x.wipe();
            return x;
        });
        LampsOfDissent x = new LampsOfDissent();
        due("count(8)", x.count(8), 0);
        due("wipe()", x.wipe(), 0);
        due("fault()", x.fault(), NONE);
        due("undo()", x.undo(), NO);
        due("back()", x.back(), NO);
        due("forget()", x.forget(), 0);
    }

    static void promise01OneObjectDoesNotTouchAnother() {
        alike(LampsOfDissent::new, () -> {
            LampsOfDissent x = new LampsOfDissent();
            LampsOfDissent other = city("h1;p0,31,9,0;w0,1;");
            other.pass(1);
            other.ration(0);
            other.seen(0, 9);
            other.keep();
            return x;
        });
    }

    static void promise01The512thCallStillAnswers() {
        LampsOfDissent x = new LampsOfDissent();
        for (int k = 1; k <= 200; k++) {
            x.write('h');
        }
        for (int k = 201; k <= 510; k++) {
            x.alter(0, 4);
        }
        due("call 511", x.person(0, 1), 5);
        due("call 512", x.alter(0, 4), 1);
    }

    static void promise02LettersAre32To126() {
        LampsOfDissent x = new LampsOfDissent();
        for (int letter = 32; letter <= 126; letter++) {
            due("write(" + letter + ")", x.write(letter), letter - 31);
        }
        int[] none = {31, 127, 0, -1, 128, 255, 256 + 'h', -'h', LEAST, MOST};
        for (int letter : none) {
            bad("write(" + letter + ")", y -> y.write(letter));
        }
    }

    static void promise02ATextIs200LettersAtMost() {
        Supplier<LampsOfDissent> full = () -> written("s7;".repeat(66) + "s7");
        LampsOfDissent x = written("s7;".repeat(66));
        due("the 199th", x.write('s'), 199);
        due("the 200th", x.write('7'), 200);
        due("the 201st", x.write(';'), FULL);
        due("how long it is", x.count(8), 200);
        refused(full, "write(59) of the 201st", y -> y.write(';'), FULL);
        refused(full, "write(31) is BAD ahead of FULL", y -> y.write(31), BAD);
        refused(full, "write(127) is BAD ahead of FULL", y -> y.write(127), BAD);
        due("wipe()", x.wipe(), 200);
        due("the first again", x.write(';'), 1);
    }

    static void promise02The200thLetterIsRead() {
        String text = "h4;".repeat(61) + "h04;h04;p0,0,0,3;";
        LampsOfDissent x = written(text);
        due("its length", x.count(8), 200);
        due("fault()", x.fault(), NONE);
        due("the 201st", x.write('x'), FULL);
        due("fault() is as before", x.fault(), NONE);
        due("lay()", x.lay(), 1);
        LampsOfDissent cut = written("h4;" + text);
        due("fault() of the ITEM that the end cuts", cut.fault(), 194);
        due("lay() of it", cut.lay(), NO);
    }

    static void promise02WritingIsNoActAndLaysNothing() {
        LampsOfDissent x = written("h1;p0,0,0,0;");
        due("PERSONS", x.count(0), 6);
        due("undo()", x.undo(), NO);
    }

    static void promise03WipeOfAnEmptyAndAFullText() {
        due("of an empty one", new LampsOfDissent().wipe(), 0);
        due("of one letter", written("h").wipe(), 1);
        LampsOfDissent x = written("h".repeat(200));
        due("of a full one", x.wipe(), 200);
        due("once more", x.wipe(), 0);
        due("how long it is", x.count(8), 0);
        due("fault()", x.fault(), NONE);
        due("lay()", x.lay(), NO);
        due("write behind it", x.write('h'), 1);
    }

    static void promise03WipeTouchesTheTextAlone() {
        alike(() -> {
            LampsOfDissent x = busy();
            due("wipe()", x.wipe(), 29);
            return x;
        }, () -> seeing(acting(new LampsOfDissent())));
    }

    private static void sound(String... texts) {
        for (String text : texts) {
            due("fault() of " + text, written(text).fault(), NONE);
        }
    }

    /** At the first place and behind other ITEMS, with more that is not so behind it. */
    private static void faulty(String... texts) {
        for (String text : texts) {
            due("fault() of " + text, written(text).fault(), 0);
            due("fault() of h4;h4;" + text, written("h4;h4;" + text).fault(), 6);
            due("fault() of " + text + " and more", written(text + "s99;x").fault(), 0);
        }
    }

    static void promise04AnEmptyTextHasNoFault() {
        due("fault()", new LampsOfDissent().fault(), NONE);
    }

    static void promise04NumbersHaveOneOrTwoFigures() {
        sound("h5;", "h05;", "s0;", "s00;", "s09;", "s31;", "p3,5,9,4;", "p03,05,09,04;", "w3,1;", "w03,01;");
        faulty("h;", "h005;", "s;", "s000;", "s001;", "s031;", "s100;", "p,5,9,4;", "p003,5,9,4;", "p3,,9,4;", "p3,005,9,4;",
            "p3,5,,4;", "p3,5,009,4;", "p3,5,9,;", "p3,5,9,004;", "w,1;", "w003,1;", "w3,;", "w3,001;");
    }

    static void promise04NumbersArePartedAndClosed() {
        faulty("h4", "h4,", "h4,1;", "h4,;", "s1", "s1,1;", "w0;", "w0,1", "w0,1,", "w0,1,1;", "w0;1;", "w0,1,;", "p0,0,0;",
            "p0,0,0,0", "p0,0,0,0,", "p0,0,0,0,0;", "p0,0,0,0,;", "p0;0;0;0;", "p0.0.0.0;", "h+4;", "h-1;", "h4:", "h 4;", "h4 ;",
            "hA;", "s/;", "s:;", "s1/;", "s1:;");
    }

    static void promise04AnItemBeginsWithItsLetter() {
        faulty(";", ",", "4;", " ", " h4;", "H4;", "P0,0,0,0;", "W0,1;", "S1;", "a1;", "g1;", "i1;", "o0,0,0,0;", "q0,0,0,0;", "r1;",
            "t1;", "v0,1;", "x0,1;", "hh4;", "ps1;");
        due("fault() of s1;;", written("s1;;").fault(), 3);
        due("fault() of s1; s1;", written("s1; s1;").fault(), 3);
    }

    static void promise04KindsAre0To3() {
        sound("p0,0,0,0;", "p3,0,0,0;");
        faulty("p4,0,0,0;", "p99,0,0,0;");
    }

    static void promise04OpinionsAre0To31() {
        sound("p0,0,0,0;", "p0,31,0,0;");
        faulty("p0,32,0,0;", "p0,99,0,0;");
    }

    static void promise04TempersAre0To9() {
        sound("p0,0,0,0;", "p0,0,9,0;");
        faulty("p0,0,10,0;", "p0,0,99,0;");
    }

    static void promise04APersonsHouseIs0To4WhateverHousesThereAre() {
        sound("p0,0,0,0;", "p0,0,0,4;", "h1;p0,0,0,4;", "h5;p0,0,0,4;");
        faulty("p0,0,0,5;", "p0,0,0,99;");
        due("fault() of h5; with HOUSE 5", written("h5;p0,0,0,5;").fault(), 3);
    }

    static void promise04PersonsAreEightAtMost() {
        sound("p0,0,0,0;".repeat(8));
        due("fault() of a ninth", written("p0,0,0,0;".repeat(9)).fault(), 72);
        due("fault() of a ninth behind others", written("p0,0,0,0;".repeat(8) + "s1;p0,0,0,0;").fault(), 75);
        due("fault() of a tenth", written("p0,0,0,0;".repeat(10)).fault(), 72);
    }

    static void promise04HousesAre1To5() {
        sound("h1;", "h5;", "h01;", "h05;");
        faulty("h0;", "h6;", "h00;", "h99;");
    }

    static void promise04NoOtherItemIsAheadOfHousesButHouses() {
        sound("h1;h5;", "h2;h2;h2;s1;");
        due("behind a PERSON", written("p0,0,0,0;h4;").fault(), 9);
        due("behind a WORK", written("w0,1;h4;").fault(), 5);
        due("behind SUBJECTS", written("s1;h4;").fault(), 3);
        due("behind houses and SUBJECTS", written("h4;s0;h4;").fault(), 6);
    }

    static void promise04AWorksHouseIsSuchAsThereIs() {
        sound("w0,1;", "w3,1;", "h1;w0,1;", "h5;w4,1;", "h2;h5;w4,1;", "h5;h2;w1,1;");
        due("4 without h", written("w4,1;").fault(), 0);
        due("1 of h1;", written("h1;w1,1;").fault(), 3);
        due("4 of h4;", written("h4;w4,1;").fault(), 3);
        due("5 of h5;", written("h5;w5,1;").fault(), 3);
        due("2 of h5;h2;", written("h5;h2;w2,1;").fault(), 6);
    }

    static void promise04AWorkNeeds1To30() {
        sound("w0,1;", "w0,30;");
        faulty("w0,0;", "w0,31;", "w0,00;", "w0,99;");
    }

    static void promise04WorksAreFiveAtMost() {
        sound("w0,1;".repeat(5));
        due("fault() of a sixth", written("w0,1;".repeat(6)).fault(), 25);
        due("fault() of a sixth behind others", written("w0,1;".repeat(5) + "s1;w0,1;").fault(), 28);
    }

    static void promise04SubjectsToldAre0To31() {
        sound("s0;", "s31;");
        faulty("s32;", "s99;");
    }

    static void promise04SubjectsAreToldEightTimesAtMost() {
        sound("s1;".repeat(8));
        due("fault() of a ninth", written("s1;".repeat(9)).fault(), 24);
        due("fault() of a ninth behind others", written("s1;".repeat(8) + "w0,1;s1;").fault(), 29);
    }

    static void promise04FaultIsOfTheFirstItemThatIsNotSo() {
        due("of two", written("s1;s32;s33;").fault(), 3);
        due("of two kinds", written("s1;w0,1;w0,0;h3;").fault(), 8);
        due("the last one", written("s1;s2;s3;s").fault(), 9);
    }

    static void promise04FaultLaysNothing() {
        asks("fault()", LampsOfDissent::fault);
        LampsOfDissent x = written("h1;p0,31,9,0;p0,0,9,0;p0,0,9,0;w0,1;w0,2;w0,3;w0,4;s0;");
        due("fault()", x.fault(), NONE);
        due("PERSONS", x.count(0), 6);
        due("HOUSES", x.count(1), 3);
        due("WORKS", x.count(2), 3);
        due("LIGHT", x.light(0, 0), 8);
    }

    private static void notLaid(String text) {
        refused(() -> {
            LampsOfDissent x = busy();
            x.wipe();
            for (char letter : text.toCharArray()) {
                x.write(letter);
            }
            return x;
        }, "lay() of " + text, LampsOfDissent::lay, NO);
    }

    static void promise05ACityHasAPersonAtLeast() {
        due("of one", written("p0,0,0,0;").lay(), 1);
        due("of eight", written(EIGHT_PEOPLE).lay(), 8);
        notLaid("");
        notLaid("h2;");
        notLaid("h2;w0,1;w1,1;s3;");
    }

    static void promise05AllLiveInHousesThereAre() {
        due("3 without h", written("p0,0,0,3;").lay(), 1);
        due("0 of h1;", written("h1;p0,0,0,0;").lay(), 1);
        due("4 of h5;", written("h5;p0,0,0,4;").lay(), 1);
        due("4 of h1;h5;", written("h1;h5;p0,0,0,4;").lay(), 1);
        notLaid("p0,0,0,4;");
        notLaid("h1;p0,0,0,1;");
        notLaid("h4;p0,0,0,4;");
        notLaid("h5;h4;p0,0,0,4;");
        notLaid("h2;p0,0,0,2;p0,0,0,0;");
        notLaid("h2;p0,0,0,0;p0,0,0,2;");
        notLaid("h2;" + "p0,0,0,0;".repeat(7) + "p0,0,0,2;");
    }

    static void promise05ATextWithAFaultIsNotLaid() {
        notLaid("h6;p0,0,0,0;");
        notLaid("h1;p0,0,0,0;s32;");
        notLaid("p0,0,0,0;p0,0,0,0");
        notLaid("p0,0,0,0;".repeat(9));
    }

    static void promise05LaidAnewNothingIsLeftOfBefore() {
        Supplier<LampsOfDissent> anew = () -> {
            LampsOfDissent x = busy();
            x.seen(0, 1);
            x.keep();
            due("lay()", x.lay(), 2);
            return x;
        };
        alike(anew, () -> city(BUSY_TEXT));
        int[] counts = {2, 2, 1, 0, 0, 0, 0, 0, 29};
        LampsOfDissent x = anew.get();
        for (int what = 0; what < counts.length; what++) {
            due("count(" + what + ")", x.count(what), counts[what]);
        }
        due("undo()", x.undo(), NO);
        due("back()", x.back(), NO);
        due("forget()", x.forget(), 0);
    }

    static void promise05ASmallCityBehindAFullOne() {
        LampsOfDissent x = city("h5;" + EIGHT_PEOPLE + "w4,30;".repeat(5) + "s0;".repeat(8));
        x.wipe();
        String small = "p0,1,0,3;p0,0,0,3;";
        for (char letter : small.toCharArray()) {
            x.write(letter);
        }
        due("lay()", x.lay(), 2);
        int[] counts = {2, 4, 0, 0, 0, 0, 0, 0, 18};
        for (int what = 0; what < counts.length; what++) {
            due("count(" + what + ")", x.count(what), counts[what]);
        }
        due("person(2, 0)", x.person(2, 0), BAD);
        due("work(0, 0)", x.work(0, 0), BAD);
        due("31 always without s", x.light(3, 0), 1);
        due("nobody else lives there", x.light(-1, 0), 1);
        due("lit(0)", x.lit(0), 0);
    }

    static void promise05TheTextStays() {
        LampsOfDissent x = city("p0,0,0,0;");
        due("how long it is", x.count(8), 9);
        due("lay() again", x.lay(), 1);
        for (char letter : "p0,0,0,1;".toCharArray()) {
            x.write(letter);
        }
        due("lay() of it and more", x.lay(), 2);
    }

    static void promise06PersonsAreSuchAsThereAre() {
        due("the last of six", new LampsOfDissent().person(5, 1), 23);
        int[] nobody = {-1, 6, 7, 8, 31, 32, LEAST, MOST};
        for (int i : nobody) {
            for (int what = 0; what <= 4; what++) {
                due("person(" + i + ", " + what + ")", busy().person(i, what), BAD);
            }
            bad("person(" + i + ", 4)", x -> x.person(i, 4));
        }
        LampsOfDissent one = city("p0,9,0,0;");
        due("the only one", one.person(0, 1), 9);
        due("a second one", one.person(1, 1), BAD);
        LampsOfDissent eight = city(EIGHT_PEOPLE + "s1;");
        due("the eighth", eight.person(7, 4), 1 + 4 + 16 + 64);
        due("with the eighth, too", eight.person(6, 4), 2 + 8 + 32 + 128);
        due("a ninth", eight.person(8, 4), BAD);
    }

    static void promise06WhatIs0To4() {
        int[] want = {3, 7, 6, 1, 0};
        for (int what = 0; what <= 4; what++) {
            due("person(2, " + what + ")", new LampsOfDissent().person(2, what), want[what]);
        }
        int[] none = {-1, 5, LEAST, MOST};
        for (int what : none) {
            bad("person(0, " + what + ")", x -> x.person(0, what));
        }
    }

    static void promise06NumbersAtTheirEnds() {
        LampsOfDissent x = city("h5;p3,31,9,4;p0,0,0,0;");
        int[] high = {3, 31, 9, 4, 0};
        for (int what = 0; what <= 4; what++) {
            due("person(0, " + what + ")", x.person(0, what), high[what]);
            due("person(1, " + what + ")", x.person(1, what), 0);
        }
        LampsOfDissent eight = city("h5;" + "p0,0,0,0;".repeat(7) + "p3,31,9,4;");
        for (int what = 0; what <= 4; what++) {
            due("person(7, " + what + ")", eight.person(7, what), high[what]);
            due("person(6, " + what + ")", eight.person(6, what), 0);
        }
    }

    static void promise06AQuietOneOfLessThan3IsNotAtOdds() {
        for (int temper = 0; temper <= 9; temper++) {
            int atOdds = temper < 3 ? 0 : 1;
            LampsOfDissent lower = city("h1;p1,1,".concat(temper + ",0;p0,0,0,0;"));
            due("lower of " + temper, lower.person(0, 4), 2 * atOdds);
            due("with the lower of " + temper, lower.person(1, 4), atOdds);
            LampsOfDissent higher = city("h1;p0,0,0,0;p1,1,".concat(temper + ",0;"));
            due("higher of " + temper, higher.person(1, 4), atOdds);
            due("with the higher of " + temper, higher.person(0, 4), 2 * atOdds);
        }
        for (int kind = 0; kind <= 3; kind++) {
            due("KIND " + kind, city("h1;p" + kind + ",1,2,0;p0,0,0,0;").person(0, 4), kind == 1 ? 0 : 2);
        }
    }

    static void promise06AtOddsOnTalkedOfSubjectsAlone() {
        for (int subject = 0; subject < 5; subject++) {
            int bit = 1 << subject;
            String two = "h1;p0," + bit + ",0,0;p0,0,0,0;s";
            due("talked of " + subject, city(two + bit + ";").person(0, 4), 2);
            due("of all others than " + subject, city(two + (31 - bit) + ";").person(0, 4), 0);
            LampsOfDissent x = city(two + "31;");
            x.ration(subject);
            due("RATIONED " + subject, x.person(0, 4), 0);
        }
        due("alike", city("h1;p0,31,9,0;p0,31,9,0;").person(0, 4), 0);
        due("not in one HOUSE", city("h2;p0,31,9,0;p0,0,9,1;").person(0, 4), 0);
    }

    static void promise07WorksAreSuchAsThereAre() {
        due("the last of three", new LampsOfDissent().work(2, 1), 9);
        int[] none = {-1, 3, 4, 5, 31, 32, LEAST, MOST};
        for (int k : none) {
            for (int what = 0; what <= 2; what++) {
                due("work(" + k + ", " + what + ")", busy().work(k, what), BAD);
            }
            bad("work(" + k + ", 2)", x -> x.work(k, 2));
        }
        due("none at all", city("p0,0,0,0;").work(0, 2), BAD);
        LampsOfDissent five = city("h5;p0,0,0,0;w0,1;w1,1;w2,1;w3,1;w4,30;");
        due("the fifth's HOUSE", five.work(4, 0), 4);
        due("the fifth's need", five.work(4, 1), 30);
        due("a sixth", five.work(5, 0), BAD);
    }

    static void promise07WhatIs0To2() {
        int[] want = {0, 6, 1};
        for (int what = 0; what <= 2; what++) {
            due("work(0, " + what + ")", new LampsOfDissent().work(0, what), want[what]);
        }
        int[] none = {-1, 3, LEAST, MOST};
        for (int what : none) {
            bad("work(0, " + what + ")", x -> x.work(0, what));
        }
    }

    static void promise07LitWithAsMuchAsItNeeds() {
        LampsOfDissent x = city("h1;p0,31,4,0;p0,0,4,0;p0,31,4,0;w0,29;w0,30;");
        due("LIGHT", x.light(0, 0), 30);
        due("more than it needs", x.work(0, 2), 1);
        due("as much as it needs", x.work(1, 2), 1);
        LampsOfDissent less = city("h1;p0,31,4,0;p0,0,3,0;p0,31,5,0;w0,25;w0,26;w0,1;");
        due("LIGHT", less.light(0, 0), 25);
        due("as much as it needs", less.work(0, 2), 1);
        due("1 less than it needs", less.work(1, 2), 0);
        less.ration(0);
        less.ration(1);
        less.ration(2);
        less.ration(3);
        less.ration(4);
        due("needs 1, has none", less.work(2, 2), 0);
    }

    // ---- acts

    static void promise08HoursGoneByAre1To30() {
        due("pass(1)", new LampsOfDissent().pass(1), 1);
        due("pass(30)", new LampsOfDissent().pass(30), 30);
        int[] none = {0, -1, 31, LEAST, MOST, MOST - 998};
        for (int n : none) {
            bad("pass(" + n + ")", x -> x.pass(n));
        }
    }

    static void promise08TheLastHourIs999() {
        Supplier<LampsOfDissent> late = () -> later(970);
        refused(late, "pass(30) at 970", x -> x.pass(30), NO);
        due("pass(29) at 970", late.get().pass(29), 999);
        Supplier<LampsOfDissent> last = () -> later(999);
        due("the HOUR", last.get().count(3), 999);
        refused(last, "pass(1) at 999", x -> x.pass(1), NO);
        refused(last, "pass(30) at 999", x -> x.pass(30), NO);
        refused(last, "pass(0) is BAD ahead of NO", x -> x.pass(0), BAD);
        refused(last, "pass(31) is BAD ahead of NO", x -> x.pass(31), BAD);
        LampsOfDissent x = later(998);
        due("pass(2) at 998", x.pass(2), NO);
        due("pass(1) at 998", x.pass(1), 999);
        due("undo()", x.undo(), 7);
        due("pass(1) once more", x.pass(1), 999);
    }

    static void promise08ManyHoursAtOnceAreAsOneByOne() {
        for (int n = 1; n <= 30; n++) {
            LampsOfDissent atOnce = new LampsOfDissent();
            LampsOfDissent oneByOne = new LampsOfDissent();
            atOnce.pass(n);
            for (int k = 0; k < n; k++) {
                oneByOne.pass(1);
            }
            StringBuilder got = new StringBuilder();
            StringBuilder want = new StringBuilder();
            tellShort(atOnce, got);
            tellShort(oneByOne, want);
            check("pass(" + n + ") " + got + " for " + want, got.toString().equals(want.toString()));
        }
    }

    static void promise08BehindTheLastToldAgainFromTheFirst() {
        int[] seven = {5, 10, 15, 20, 25, 10, 0};
        LampsOfDissent x = city("h1;p0,31,9,0;p0,0,9,0;s1;s3;s7;s15;s31;s3;s1;s7;");
        int[] eight = {5, 10, 15, 20, 25, 10, 5, 15};
        for (int hour = 0; hour <= 17; hour++) {
            due("eight told, HOUR " + hour, x.light(0, 0), eight[hour % 8]);
            x.pass(1);
        }
        LampsOfDissent last = later(city(SEVEN_TOLD.replace("s0;", "s1;")), 999);
        // 999 is 5 modulo 7
        due("seven told, HOUR 999", last.light(0, 0), seven[5]);
        LampsOfDissent one = city("h1;p0,31,9,0;p0,0,9,0;s7;");
        LampsOfDissent none = city("h1;p0,31,9,0;p0,0,9,0;");
        for (int hour = 0; hour <= 9; hour++) {
            due("one told, HOUR " + hour, one.light(0, 0), 15);
            due("none told, HOUR " + hour, none.light(0, 0), 25);
            one.pass(1);
            none.pass(1);
        }
    }

    private static void dueBehindHour(String text, int what, int... want) {
        LampsOfDissent x = city(text);
        x.pass(1);
        for (int i = 0; i < want.length; i++) {
            due(text + " person(" + i + ", " + what + ")", x.person(i, what), want[i]);
        }
    }

    static void promise08TempersAre9AtMost() {
        dueBehindHour("h1;p0,1,8,0;p0,0,9,0;s1;", 2, 9, 9);
        dueBehindHour("h1;p0,1,9,0;p0,0,7,0;s1;", 2, 9, 8);
        // 0 and 1 AT ODDS: 9 stays, then 1 less for 0 and 2 who are alike, not 10 less 1; 1 and 2 AT ODDS
        dueBehindHour("h1;p0,1,9,0;p0,0,9,0;p0,1,9,0;s1;", 2, 8, 9, 9);
    }

    static void promise08TempersAre0AtLeast() {
        dueBehindHour("h1;p0,1,1,0;p0,1,0,0;s1;", 2, 0, 0);
        dueBehindHour("h1;p0,1,0,0;p0,1,2,0;s1;", 2, 0, 1);
        // 0 and 1 are alike: 0 stays 0; 0 and 2, 1 and 2 AT ODDS: 1 more for each
        dueBehindHour("h1;p0,1,0,0;p0,1,0,0;p0,0,0,0;s1;", 2, 1, 1, 2);
    }

    static void promise08OneAloneKeepsHisTemper() {
        dueBehindHour("h2;p0,1,0,0;p0,0,9,1;s1;", 2, 0, 9);
        dueBehindHour("h1;p0,1,5,0;", 2, 5);
    }

    static void promise08AQuietOneIsAtOddsAsTheHourBegan() {
        // 0 falls to 2 by the first two, but was AT ODDS in the HOUR with 2
        dueBehindHour("h1;p1,1,3,0;p0,1,5,0;p0,0,5,0;s1;", 2, 3, 5, 7);
        // 1 rises to 3 by nobody: a QUIET one of 2 was AT ODDS with none
        dueBehindHour("h1;p0,0,5,0;p1,1,2,0;p0,0,5,0;s1;", 2, 3, 0, 3);
    }

    static void promise08OpinionsAreTakenIfBothTempersAre0() {
        dueBehindHour("h1;p0,1,1,0;p0,0,1,0;s0;", 1, 0, 0);
        dueBehindHour("h1;p0,1,0,0;p0,0,0,0;s0;", 1, 0, 0);
        dueBehindHour("h1;p0,1,2,0;p0,0,1,0;s0;", 1, 1, 0);
        dueBehindHour("h1;p0,1,1,0;p0,0,2,0;s0;", 1, 1, 0);
        dueBehindHour("h2;p0,1,0,0;p0,0,0,1;s0;", 1, 1, 0);
        // AT ODDS: both have 1 then
        dueBehindHour("h1;p0,1,0,0;p0,0,0,0;s1;", 1, 1, 0);
    }

    static void promise08TheLowestOfAll5SubjectsIsTaken() {
        for (int subject = 0; subject < 5; subject++) {
            int bit = 1 << subject;
            int above = 31 - 2 * bit + 1;
            dueBehindHour("h1;p0," + bit + ",0,0;p0,0,0,0;s0;", 1, 0, 0);
            dueBehindHour("h1;p0,0,0,0;p0," + bit + ",0,0;s0;", 1, bit, bit);
            // unlike on it and on all above it
            dueBehindHour("h1;p0," + (bit + above) + ",0,0;p0,0,0,0;s0;", 1, above, 0);
        }
        LampsOfDissent x = city("h1;p0,3,0,0;p0,0,0,0;s1;");
        x.ration(0);
        x.pass(1);
        due("a RATIONED one, too", x.person(0, 1), 2);
        dueBehindHour("h1;p0,31,0,0;p0,31,0,0;s0;", 1, 31, 31);
    }

    static void promise08AStubbornOneTakesNothing() {
        dueBehindHour("h1;p3,1,0,0;p0,0,0,0;s0;", 1, 1, 0);
        dueBehindHour("h1;p0,1,0,0;p3,0,0,0;s0;", 1, 0, 0);
        dueBehindHour("h1;p2,1,0,0;p3,0,0,0;s0;", 1, 0, 0);
        dueBehindHour("h1;p1,1,0,0;p3,0,0,0;s0;", 1, 0, 0);
    }

    static void promise08TwosComeByTheLowerThenTheHigher() {
        // 0 takes SUBJECT 0 of 1, then what is unlike 2 by then: SUBJECT 0 again; 1 takes SUBJECT 0 of 2
        dueBehindHour("h1;p0,0,0,0;p0,1,0,0;p0,2,0,0;s0;", 1, 0, 0, 2);
        // 0 and 3 with 1 and 2 living elsewhere
        dueBehindHour("h2;p0,4,0,0;p0,9,0,1;p0,9,0,1;p0,8,0,0;s0;", 1, 0, 9, 9, 8);
    }

    static void promise08TheEighthIsOneOfTwos() {
        String six = "h2;" + "p0,0,0,0;".repeat(6);
        dueBehindHour(six + "p0,1,5,1;p0,0,5,1;s1;", 2, 0, 0, 0, 0, 0, 0, 6, 6);
        dueBehindHour(six + "p0,1,5,1;p0,0,5,1;s0;", 2, 0, 0, 0, 0, 0, 0, 4, 4);
        dueBehindHour(six + "p0,1,0,1;p0,2,0,1;s0;", 1, 0, 0, 0, 0, 0, 0, 0, 2);
    }

    static void promise09PersonsAndHousesAreSuchAsThereAre() {
        due("the last to the last", new LampsOfDissent().move(5, 2), 2);
        due("the first to the last", new LampsOfDissent().move(0, 2), 0);
        due("the last to the first", new LampsOfDissent().move(5, 0), 2);
        int[][] none = {{-1, 0}, {6, 0}, {8, 0}, {LEAST, 0}, {MOST, 0}, {0, -1}, {0, 3}, {0, 4}, {0, 5}, {0, LEAST}, {0, MOST}, {6, 3}};
        for (int[] pair : none) {
            bad("move(" + pair[0] + ", " + pair[1] + ")", x -> x.move(pair[0], pair[1]));
        }
        LampsOfDissent full = city("h5;" + EIGHT_PEOPLE);
        due("the eighth to the fifth", full.move(7, 4), 0);
        due("lives there", full.person(7, 3), 4);
        due("to a sixth", full.move(7, 5), BAD);
        due("a ninth", full.move(8, 4), BAD);
        due("without h", city("p0,0,0,0;").move(0, 3), 0);
        due("without h", city("p0,0,0,0;").move(0, 4), BAD);
        due("the only HOUSE", city("h1;p0,0,0,0;").move(0, 0), 0);
        due("a second HOUSE", city("h1;p0,0,0,0;").move(0, 1), BAD);
    }

    static void promise09AMoveToWhereOneLivesIsAnAct() {
        LampsOfDissent x = new LampsOfDissent();
        due("move(2, 1)", x.move(2, 1), 1);
        due("lives there", x.person(2, 3), 1);
        due("can be UNDONE", x.count(6), 1);
    }

    static void promise10SubjectsAre0To4() {
        for (int subject = 0; subject < 5; subject++) {
            LampsOfDissent x = city("p0,0,0,0;p0,31,0,0;");
            int bit = 1 << subject;
            due("alter(0, " + subject + ")", x.alter(0, subject), 1);
            due("is for it", x.person(0, 1), bit);
            due("alter(1, " + subject + ")", x.alter(1, subject), 0);
            due("is against it", x.person(1, 1), 31 - bit);
            due("once more", x.alter(0, subject), 0);
            due("as at first", x.person(0, 1), 0);
        }
        int[] none = {-1, 5, 31, 32, 36, LEAST, MOST};
        for (int subject : none) {
            bad("alter(0, " + subject + ")", x -> x.alter(0, subject));
        }
    }

    static void promise10PersonsAreSuchAsThereAre() {
        due("the last", new LampsOfDissent().alter(5, 3), 1);
        int[] nobody = {-1, 6, 7, 8, LEAST, MOST};
        for (int i : nobody) {
            bad("alter(" + i + ", 0)", x -> x.alter(i, 0));
        }
        LampsOfDissent eight = city(EIGHT_PEOPLE);
        due("the eighth", eight.alter(7, 0), 1);
        due("a ninth", eight.alter(8, 0), BAD);
    }

    static void promise11SubjectsAre0To4() {
        LampsOfDissent x = city("h1;p0,31,0,0;p0,0,0,0;");
        for (int subject = 0; subject < 5; subject++) {
            due("ration(" + subject + ")", x.ration(subject), 1);
            due("RATIONED", x.count(4), subject + 1);
            due("LIGHT", x.light(0, 0), 4 - subject);
        }
        for (int subject = 0; subject < 5; subject++) {
            due("let free", x.ration(subject), 0);
            due("RATIONED", x.count(4), 4 - subject);
            due("LIGHT", x.light(0, 0), subject + 1);
        }
        int[] none = {-1, 5, 31, 32, LEAST, MOST};
        for (int subject : none) {
            bad("ration(" + subject + ")", y -> y.ration(subject));
        }
    }

    static void promise11ARationHoldsForAllHours() {
        LampsOfDissent x = city("h1;p0,1,9,0;p0,0,9,0;s1;");
        x.ration(0);
        for (int d = 0; d <= 30; d++) {
            due("light(0, " + d + ")", x.light(0, d), 0);
        }
        x.ration(0);
        due("let free", x.light(0, 0), 5);
    }

    static void promise12WithoutAnActNothingCanBeUndone() {
        refused(LampsOfDissent::new, "undo()", LampsOfDissent::undo, NO);
        Supplier<LampsOfDissent> noAct = () -> {
            LampsOfDissent x = written("h1;p0,0,0,0;");
            x.seen(0, 0);
            x.keep();
            x.wipe();
            x.fault();
            x.forget();
            x.winter(1, 1, 0);
            x.homes(0);
            x.talk(4, 0);
            return x;
        };
        refused(noAct, "undo() behind what is no act", LampsOfDissent::undo, NO);
        refused(() -> {
            LampsOfDissent x = busy();
            for (int k = 0; k < 6; k++) {
                x.undo();
            }
            return x;
        }, "undo() of all and one more", LampsOfDissent::undo, NO);
        refused(() -> {
            LampsOfDissent x = busy();
            x.back();
            return x;
        }, "undo() behind back()", LampsOfDissent::undo, NO);
    }

    static void promise12TheLast8CanBeUndone() {
        for (int acts = 1; acts <= 20; acts++) {
            LampsOfDissent x = new LampsOfDissent();
            for (int k = 0; k < acts; k++) {
                x.pass(1);
            }
            int can = Math.min(acts, 8);
            due("count(6) behind " + acts, x.count(6), can);
            for (int k = 1; k <= can; k++) {
                due("undo() " + k + " behind " + acts, x.undo(), can - k);
                due("the HOUR then", x.count(3), acts - k);
            }
            due("undo() of one more behind " + acts, x.undo(), NO);
            due("the HOUR then", x.count(3), acts - can);
        }
    }

    static void promise12EachKindOfActIsUndone() {
        LampsOfDissent x = new LampsOfDissent();
        for (int round = 0; round < 3; round++) {
            x.pass(30);
            x.move(0, 2);
            x.alter(0, 4);
            x.ration(2);
            due("undo() of a ration", x.undo(), 3);
            due("RATIONED", x.count(4), 0);
            due("undo() of an OPINION", x.undo(), 2);
            due("OPINIONS", x.person(0, 1), 5);
            due("undo() of a move", x.undo(), 1);
            due("HOUSE", x.person(0, 3), 0);
            due("undo() of 30 HOURS", x.undo(), 0);
            due("the HOUR", x.count(3), 0);
            due("TEMPER", x.person(0, 2), 4);
        }
    }

    static void promise12UndoTouchesNeitherSeenNorKeptNorText() {
        LampsOfDissent x = busy();
        for (int k = 5; k >= 0; k--) {
            due("undo()", x.undo(), k);
            due("SEEN", x.count(5), 2);
            due("KEPT", x.count(7), 1);
            due("letters", x.count(8), 29);
        }
        due("back() to what was KEPT", x.back(), 0);
        due("the HOUR", x.count(3), 3);
    }

    // ---- light

    static void promise13HousesAreSuchAsThereAreOrAll() {
        due("the last of three", new LampsOfDissent().light(2, 0), 1);
        due("all", new LampsOfDissent().light(-1, 0), 9);
        int[] none = {-2, 3, 4, 5, LEAST, MOST};
        for (int h : none) {
            bad("light(" + h + ", 0)", x -> x.light(h, 0));
        }
        LampsOfDissent five = city("h5;p0,1,0,4;p0,0,0,4;");
        due("the fifth", five.light(4, 0), 1);
        due("a sixth", five.light(5, 0), BAD);
        due("without h", city("p0,1,0,3;p0,0,0,3;").light(3, 0), 1);
        due("without h", city("p0,1,0,3;p0,0,0,3;").light(4, 0), BAD);
        due("one HOUSE", city("h1;p0,0,0,0;").light(1, 0), BAD);
    }

    static void promise13HoursAheadAre0To30() {
        LampsOfDissent x = city(SEVEN_TOLD.replace("s0;", "s1;"));
        int[] seven = {5, 10, 15, 20, 25, 10, 5};
        for (int d = 0; d <= 30; d++) {
            due("light(0, " + d + ")", x.light(0, d), seven[d % 7]);
            due("light(-1, " + d + ")", x.light(-1, d), seven[d % 7]);
        }
        int[] none = {-1, 31, LEAST, MOST};
        for (int d : none) {
            bad("light(0, " + d + ")", y -> y.light(0, d));
            bad("light(-1, " + d + ")", y -> y.light(-1, d));
        }
        asks("light(0, 30)", y -> y.light(0, 30));
    }

    static void promise13HoursAheadOfTheLastHour() {
        LampsOfDissent x = later(city(SEVEN_TOLD.replace("s0;", "s1;")), 999);
        // 999 is 5, 1029 is 0 modulo 7
        due("light(0, 0)", x.light(0, 0), 10);
        due("light(0, 1)", x.light(0, 1), 5);
        due("light(0, 30)", x.light(0, 30), 5);
        due("light(0, 29)", x.light(0, 29), 5);
        due("light(0, 26)", x.light(0, 26), 20);
    }

    static void promise13TheDthHourIsAsIfHoursWentBy() {
        for (int d = 0; d <= 30; d++) {
            LampsOfDissent x = busy();
            LampsOfDissent gone = later(busy(), d);
            for (int h = -1; h < 3; h++) {
                due("light(" + h + ", " + d + ")", x.light(h, d), gone.light(h, 0));
            }
        }
    }

    static void promise13LightOfAHouseIs60AtMost() {
        // 0 and 1: 4 by 5; 0 and 3: 5 by 3; 1 and 2: 4 by 4; 1 and 3: 1 by 3; 2 and 3: 5 by 1
        due("59", city("h1;p0,15,9,0;p0,0,9,0;p0,15,3,0;p0,16,0,0;").light(0, 0), 59);
        // 1 with 0, 2 and 3: 5 by 5, by 4 and by 3
        due("60", city("h1;p0,31,9,0;p0,0,9,0;p0,31,3,0;p0,31,0,0;").light(0, 0), 60);
        // 0 and 1: 5 by 5; 1 and 2: 5 by 4; 1 and 3: 4 by 3; 0 and 3: 1 by 3; 2 and 3: 1 by 1
        due("61", city("h1;p0,31,9,0;p0,0,9,0;p0,31,3,0;p0,15,0,0;").light(0, 0), 60);
        due("all eight", city("h1;" + "p0,31,9,0;p0,0,9,0;".repeat(4)).light(0, 0), 60);
    }

    static void promise13LightOfAllMayBeMoreThan60() {
        String bright = "p0,31,9,0;p0,0,9,0;p0,31,9,0;p0,0,9,0;";
        due("60 and 1", city("h2;" + bright + "p0,1,0,1;p0,0,0,1;").light(-1, 0), 61);
        due("60 and 60", city("h2;" + bright + bright.replace(",0;", ",1;")).light(-1, 0), 120);
    }

    static void promise13TempersOfBothBy4Cut() {
        for (int lower = 0; lower <= 9; lower++) {
            for (int higher = 0; higher <= 9; higher++) {
                String two = "h1;p0,1," + lower + ",0;p3,0," + higher + ",0;";
                due(two, city(two).light(0, 0), (lower + higher) / 4 + 1);
                String all = "h1;p0,31," + lower + ",0;p3,0," + higher + ",0;";
                due(all, city(all).light(0, 0), 5 * ((lower + higher) / 4 + 1));
            }
        }
    }

    static void promise13HalfOfItCutIfOneIsFalse() {
        String[] pairs = {"p2,%d,%d,0;p0,0,0,0;", "p0,%d,%d,0;p2,0,0,0;", "p2,%d,%d,0;p2,0,0,0;", "p3,%d,%d,0;p2,0,0,0;"};
        int[] opinions = {0, 1, 3, 7, 15, 31};
        for (String pair : pairs) {
            for (int subjects = 0; subjects <= 5; subjects++) {
                for (int temper = 0; temper <= 9; temper++) {
                    String text = "h1;" + String.format(pair, opinions[subjects], temper);
                    due(text, city(text).light(0, 0), subjects * (temper / 4 + 1) / 2);
                }
            }
        }
        // each two is cut for itself: half of 1 and half of 1
        due("two twos", city("h1;p2,1,0,0;p0,0,0,0;p2,0,0,0;s1;").light(0, 0), 0);
    }

    static void promise13AHouseOfNobodyOrOneHasNoLight() {
        LampsOfDissent x = city("h3;p0,31,9,1;");
        for (int h = -1; h < 3; h++) {
            due("light(" + h + ", 0)", x.light(h, 0), 0);
        }
    }

    static void promise14HoursAheadAre0To30() {
        LampsOfDissent x = city(SEVEN_TOLD + "w0,1;w0,10;w0,15;w0,20;w0,25;");
        int[] seven = {1, 3, 7, 15, 31, 3, 0};
        for (int d = 0; d <= 5; d++) {
            due("lit(" + d + ")", x.lit(d), seven[d]);
        }
        due("lit(6) in an HOUR of silence", x.lit(6), 0);
        int[] none = {-1, 31, LEAST, MOST};
        for (int d : none) {
            bad("lit(" + d + ")", y -> y.lit(d));
        }
        LampsOfDissent loud = city(SEVEN_TOLD.replace("s0;", "s1;") + "w0,1;w0,10;w0,15;w0,20;w0,25;");
        due("lit(30)", loud.lit(30), 7);
        asks("lit(30)", y -> y.lit(30));
    }

    static void promise14BitsOfNoWorksAndOfFive() {
        due("no WORKS", city("h1;p0,31,9,0;p0,0,9,0;").lit(0), 0);
        due("five", city("h1;p0,31,9,0;p0,0,9,0;" + "w0,25;".repeat(5)).lit(0), 31);
        due("five but the fifth", city("h1;p0,31,9,0;p0,0,9,0;" + "w0,25;".repeat(4) + "w0,26;").lit(0), 15);
        due("the fifth alone", city("h2;p0,31,9,0;p0,0,9,0;" + "w1,1;".repeat(4) + "w0,25;").lit(0), 16);
    }

    static void promise14AsMuchLightAsItNeeds() {
        String two = "h1;p0,31,9,0;p0,0,9,0;w0,";
        for (int need = 1; need <= 30; need++) {
            due("needs " + need, city(two + need + ";").lit(0), need <= 25 ? 1 : 0);
        }
    }

    static void promise15HousesAreSuchAsThereAre() {
        due("the last", new LampsOfDissent().reach(2), 0);
        int[] none = {-1, -2, 3, 4, 5, LEAST, MOST};
        for (int h : none) {
            bad("reach(" + h + ")", x -> x.reach(h));
        }
        due("the fifth of h5;", city("h5;p0,0,0,0;").reach(4), 31);
        due("a sixth of h5;", city("h5;p0,0,0,0;").reach(5), BAD);
        due("the fourth without h", city("p0,0,0,0;").reach(3), 15);
        due("a fifth without h", city("p0,0,0,0;").reach(4), BAD);
        asks("reach(1)", x -> x.reach(1));
    }

    static void promise15TheRowHasTwoEnds() {
        for (int houses = 1; houses <= 5; houses++) {
            for (int h = 0; h < houses; h++) {
                due("all DARK, reach(" + h + ")", city("h" + houses + ";p0,0,0,0;").reach(h), (1 << houses) - 1);
            }
        }
        // light in the first one: the last is not next to it, nor round about
        LampsOfDissent x = city("h5;p0,1,0,0;p0,0,0,0;");
        int[] want = {0, 30, 30, 30, 30};
        LampsOfDissent y = city("h5;p0,1,0,4;p0,0,0,4;");
        int[] other = {15, 15, 15, 15, 0};
        for (int h = 0; h < 5; h++) {
            due("reach(" + h + ") with 0 bright", x.reach(h), want[h]);
            due("reach(" + h + ") with 4 bright", y.reach(h), other[h]);
        }
    }

    static void promise15ABrightHouseStopsThieves() {
        int[][] want = {{0, 30, 30, 30, 30}, {1, 0, 28, 28, 28}, {3, 3, 0, 24, 24}, {7, 7, 7, 0, 16}, {15, 15, 15, 15, 0}};
        for (int bright = 0; bright < 5; bright++) {
            LampsOfDissent x = city("h5;p0,1,0," + bright + ";p0,0,0," + bright + ";");
            for (int h = 0; h < 5; h++) {
                due("reach(" + h + ") with " + bright + " bright", x.reach(h), want[bright][h]);
            }
        }
        LampsOfDissent two = city("h5;p0,1,0,1;p0,0,0,1;p0,1,0,3;p0,0,0,3;");
        int[] parted = {1, 0, 4, 0, 16};
        for (int h = 0; h < 5; h++) {
            due("reach(" + h + ") with two bright", two.reach(h), parted[h]);
        }
    }

    static void promise15DarkIsWithoutLight() {
        due("LIGHT 1", city("h1;p0,1,0,0;p0,0,0,0;").reach(0), 0);
        due("half of 1, cut", city("h1;p0,1,0,0;p2,0,0,0;").reach(0), 1);
        due("half of 2", city("h1;p0,3,0,0;p2,0,0,0;").reach(0), 0);
    }

    private static final String FIRST_AT_30 = "h1;p3,18,0,0;p1,24,7,0;p3,24,9,0;p1,14,7,0;p1,4,0,0;p2,20,7,0;w0,2;s25;s4;s3;";
    private static final String FIRST_AT_31 = "h1;p3,28,9,0;p1,20,7,0;p2,22,0,0;p0,19,5,0;p0,9,5,0;p3,9,3,0;w0,8;s2;s16;s1;";

    static void promise16FirstIsBehind0HoursAtLeast() {
        due("not in the next HOUR", new LampsOfDissent().first(), 0);
        due("one of two", city("h2;p0,1,3,0;p0,0,3,0;w0,1;w1,1;s1;").first(), 0);
        due("behind 1", city("h1;p0,1,3,0;p0,0,3,0;w0,1;s1;s0;").first(), 1);
        asks("first()", LampsOfDissent::first);
    }

    static void promise16FirstIsBehind30HoursAtMost() {
        LampsOfDissent x = city(FIRST_AT_30);
        for (int d = 0; d <= 30; d++) {
            due("lit(" + d + ")", x.lit(d), d < 30 ? 1 : 0);
        }
        due("behind 30", x.first(), 30);
        LampsOfDissent y = city(FIRST_AT_31);
        for (int d = 0; d <= 30; d++) {
            due("lit(" + d + ")", y.lit(d), 1);
        }
        due("behind 31", y.first(), NONE);
        y.pass(1);
        due("lit(30)", y.lit(30), 0);
        due("behind 30 from now on", y.first(), 30);
    }

    static void promise16NoneIfAllWorksStayLitOrThereAreNone() {
        due("lit ever on", city("h1;p0,1,3,0;p0,0,3,0;w0,1;s1;").first(), NONE);
        due("no WORKS", city("h1;p0,0,0,0;").first(), NONE);
        due("beyond the last HOUR", later(city("h1;p0,1,3,0;p0,0,3,0;w0,1;s1;"), 999).first(), NONE);
        // HOUR 999 is 5 modulo 7, silence is in 6
        due("behind HOUR 999", later(city(SEVEN_TOLD + "w0,1;"), 999).first(), 1);
    }

    // ---- what would be

    private static void dueHomes(String text, int lit, int moved, int... where) {
        LampsOfDissent x = city(text);
        due(text + " homes(-1)", x.homes(-1), lit);
        due(text + " homes(-2)", x.homes(-2), moved);
        for (int i = 0; i < where.length; i++) {
            due(text + " homes(" + i + ")", x.homes(i), where[i]);
        }
    }

    static void promise17PersonsAreSuchAsThereAre() {
        due("the last", new LampsOfDissent().homes(5), 0);
        due("how many are LIT", new LampsOfDissent().homes(-1), 2);
        due("how many move", new LampsOfDissent().homes(-2), 3);
        int[] nobody = {-3, 6, 7, 8, LEAST, MOST};
        for (int i : nobody) {
            bad("homes(" + i + ")", x -> x.homes(i));
        }
        LampsOfDissent eight = city("h5;" + EIGHT_PEOPLE);
        due("the eighth", eight.homes(7), 0);
        due("a ninth", eight.homes(8), BAD);
        asks("homes(-1)", x -> x.homes(-1));
        asks("homes(0)", x -> x.homes(0));
    }

    static void promise17NoMoreThanFourMove() {
        String six = "h2;p0,1,0,1;p0,1,0,1;p0,1,0,1;p0,0,0,1;p0,0,0,1;p0,0,0,1;s1;w0,";
        dueHomes(six + "1;", 1, 2, 0, 1, 1, 0, 1, 1);
        dueHomes(six + "2;", 1, 3, 0, 0, 1, 0, 1, 1);
        // two and two make 4; three and two, five who move, would make 6
        dueHomes(six + "4;", 1, 4, 0, 0, 1, 0, 0, 1);
        dueHomes(six + "5;", 0, 0, 1, 1, 1, 1, 1, 1);
        // all eight stay or four of them move: there are at most 4 in HOUSE 0
        String eight = "h2;" + EIGHT_PEOPLE.replace(",0;", ",1;") + "s1;w0,";
        dueHomes(eight + "4;", 1, 4, 0, 0, 0, 0, 1, 1, 1, 1);
        dueHomes(eight + "5;", 0, 0, 1, 1, 1, 1, 1, 1, 1, 1);
    }

    static void promise17TheEighthMovesToTheFifthHouse() {
        String six = "h5;" + "p0,0,0,0;".repeat(6);
        dueHomes(six + "p0,0,0,4;p0,1,0,3;w4,1;s1;", 1, 1, 0, 0, 0, 0, 0, 0, 4, 4);
        // any of the others may come to him: the first way has the last of them move
        dueHomes(six + "p0,0,0,0;p0,1,0,4;w4,1;s1;", 1, 1, 0, 0, 0, 0, 0, 0, 4, 4);
    }

    static void promise17NobodyMovesIfNothingIsWon() {
        dueHomes("h3;p0,1,0,2;p0,0,0,1;", 0, 0, 2, 1);
        dueHomes("h1;p0,1,0,0;p0,0,0,0;w0,1;", 1, 0, 0, 0);
        dueHomes("h1;p0,1,0,0;p0,0,0,0;w0,2;", 0, 0, 0, 0);
        dueHomes("h5;p0,1,0,4;w0,1;", 0, 0, 4);
        dueHomes("h2;p0,1,0,1;p0,0,0,1;w1,1;w0,1;", 1, 0, 1, 1);
    }

    static void promise17MostLitThenFewestMovesThenTheFirst() {
        // one move lights either WORK, and the two cannot light both: the first has PERSON 0 in HOUSE 0
        dueHomes("h2;p0,1,0,0;p0,0,0,1;w0,1;w1,1;", 1, 1, 0, 0);
        dueHomes("h2;p0,1,0,0;p0,0,0,1;w1,1;", 1, 1, 1, 1);
        // more moves for more WORKS
        dueHomes("h2;p0,3,0,0;p0,3,0,0;p0,0,0,0;p0,0,0,0;w0,1;w1,1;s1;", 2, 2, 0, 1, 0, 1);
        // five WORKS at once
        dueHomes("h2;p0,1,0,1;p0,0,0,1;" + "w0,1;".repeat(5), 5, 2, 0, 0);
        // to the lowest HOUSE of those alike: 1 goes to HOUSE 0 with 0
        dueHomes("h3;p0,1,0,0;p0,0,0,2;w0,1;w2,1;", 1, 1, 0, 0);
    }

    static void promise17OfTheNextHourAndItsSubjects() {
        LampsOfDissent x = city("h2;p0,1,0,0;p0,0,0,1;w0,1;s1;s0;");
        due("talked of", x.homes(-1), 1);
        x.pass(1);
        due("not talked of", x.homes(-1), 0);
        due("nobody moves", x.homes(-2), 0);
        x.pass(1);
        due("talked of again", x.homes(-2), 1);
        x.ration(0);
        due("RATIONED", x.homes(-1), 0);
    }

    static void promise18TwoAreSuchAsThereAreAndUnlike() {
        LampsOfDissent x = new LampsOfDissent();
        due("the last two", x.apart(4, 5, 0) > 0 ? 1 : 0, 1);
        due("the last two, turned", x.apart(5, 4, 0), x.apart(4, 5, 0));
        int[][] none = {{0, 0}, {5, 5}, {-1, 0}, {0, -1}, {6, 0}, {0, 6}, {6, 6}, {-1, -1}, {8, 0}, {LEAST, 0}, {0, MOST}};
        for (int[] pair : none) {
            bad("apart(" + pair[0] + ", " + pair[1] + ", 0)", y -> y.apart(pair[0], pair[1], 0));
        }
        LampsOfDissent eight = city("h2;" + EIGHT_PEOPLE);
        due("the eighth", eight.apart(6, 7, 0) > 0 ? 1 : 0, 1);
        due("a ninth", eight.apart(7, 8, 0), BAD);
    }

    static void promise18WhatIs0Or1() {
        int[] none = {-1, 2, LEAST, MOST};
        for (int what : none) {
            bad("apart(4, 5, " + what + ")", x -> x.apart(4, 5, what));
            bad("apart(0, 5, " + what + ") is BAD ahead of NO", x -> x.apart(0, 5, what));
        }
    }

    static void promise18TheyLiveTogetherInOneOfSeveralHouses() {
        refused(LampsOfDissentEdges::busy, "apart(0, 5, 0) of two who do not", x -> x.apart(0, 5, 0), NO);
        refused(LampsOfDissentEdges::busy, "apart(0, 5, 1) of two who do not", x -> x.apart(0, 5, 1), NO);
        Supplier<LampsOfDissent> one = () -> city("h1;p0,1,0,0;p0,0,0,0;");
        refused(one, "apart(0, 1, 0) in the only HOUSE", x -> x.apart(0, 1, 0), NO);
        refused(one, "apart(0, 1, 1) in the only HOUSE", x -> x.apart(0, 1, 1), NO);
        refused(one, "apart(1, 1, 0) is BAD ahead of NO", x -> x.apart(1, 1, 0), BAD);
        refused(one, "apart(0, 2, 0) is BAD ahead of NO", x -> x.apart(0, 2, 0), BAD);
        due("in one of two", city("h2;p0,1,0,0;p0,0,0,0;").apart(0, 1, 0), 101);
        asks("apart(4, 5, 1)", x -> x.apart(4, 5, 1));
    }

    private static void dueApart(String text, int i, int j, int light, int how) {
        due(text + " 0", city(text).apart(i, j, 0), light);
        due(text + " 1", city(text).apart(i, j, 1), how);
        due(text + " 0, turned", city(text).apart(j, i, 0), light);
        due(text + " 1, turned", city(text).apart(j, i, 1), how);
    }

    static void promise18LostAndGainedLightAround100() {
        dueApart("h2;p0,1,0,0;p0,1,0,0;", 0, 1, 100, 1);
        dueApart("h2;p0,1,0,0;p0,0,0,0;", 0, 1, 101, 1);
        dueApart("h2;p0,31,9,0;p0,0,9,0;", 0, 1, 125, 1);
        dueApart("h2;p0,1,0,0;p0,1,0,0;p0,0,0,1;", 0, 1, 99, 1);
        dueApart("h2;p0,31,9,0;p0,31,9,0;p0,0,9,1;", 0, 1, 75, 1);
        // 0 or 1 comes to two of whom each is unlike on all 5, by 5
        dueApart("h2;p0,31,9,0;p0,31,9,0;p0,0,9,1;p0,0,9,1;", 0, 1, 50, 1);
        dueApart("h2;p0,31,9,0;p0,31,9,0;p0,0,9,1;p0,0,9,1;p0,0,9,1;", 0, 1, 40, 1);
        // HOUSE 0 has 60 with either of them gone, too
        dueApart("h2;p0,31,9,0;p0,0,9,0;p0,31,9,0;p0,0,9,0;p0,31,9,0;p0,0,9,0;", 0, 1, 100, 1);
    }

    static void promise18WhoAndWhitherTheFirstOfSeveral() {
        dueApart("h3;p0,1,0,1;p0,0,0,1;", 0, 1, 101, 0);
        dueApart("h3;p0,1,0,0;p0,0,0,0;", 0, 1, 101, 1);
        // only 1 to HOUSE 2 has somebody to be AT ODDS with
        dueApart("h3;p0,1,0,0;p0,0,0,0;p0,1,0,2;s1;", 0, 1, 100, 10);
        // the last PERSON to the last HOUSE
        dueApart("h5;p0,0,0,0;p0,0,0,0;p0,0,0,0;p0,0,0,0;p0,0,0,0;p0,1,0,4;p0,0,0,0;p0,0,9,0;s1;", 6, 7, 97, 60);
        // 0 is at home in HOUSE 0: of 0 to 1 and 1 to 1 the first
        dueApart("h2;p0,7,0,0;p0,7,0,0;p0,0,0,1;s7;", 0, 1, 97, 1);
    }

    static void promise19HoursAre1To4() {
        LampsOfDissent x = city("h1;p0,4,0,0;p0,0,0,0;s0;");
        int[] most = {0, 1, 2, 4, 6};
        for (int n = 1; n <= 4; n++) {
            due("talk(" + n + ", -1)", x.talk(n, -1), most[n]);
        }
        LampsOfDissent fierce = city("h1;p3,4,9,0;p3,0,9,0;s0;");
        for (int n = 4; n >= 1; n--) {
            due("talk(" + n + ", -1) behind one for more HOURS", fierce.talk(n, -1), 5 * n);
        }
        int[] none = {0, -1, 5, LEAST, MOST};
        for (int n : none) {
            bad("talk(" + n + ", -1)", y -> y.talk(n, -1));
            bad("talk(" + n + ", 0)", y -> y.talk(n, 0));
        }
        asks("talk(4, -1)", y -> y.talk(4, -1));
        asks("talk(4, 3)", y -> y.talk(4, 3));
    }

    static void promise19TheKthIs0ToNLess1() {
        LampsOfDissent x = city("h1;p0,4,0,0;p0,0,0,0;s0;");
        for (int n = 1; n <= 4; n++) {
            for (int k = 0; k < n; k++) {
                due("talk(" + n + ", " + k + ")", x.talk(n, k), 2);
            }
            int hours = n;
            int[] none = {-2, n, 5, LEAST, MOST};
            for (int k : none) {
                bad("talk(" + n + ", " + k + ")", y -> y.talk(hours, k));
            }
        }
    }

    static void promise19NoneComesAheadOfSubject0() {
        LampsOfDissent alike = city("h1;p0,4,9,0;p0,4,9,0;");
        LampsOfDissent rationed = city("h1;p0,31,9,0;p0,0,9,0;");
        for (int subject = 0; subject < 5; subject++) {
            rationed.ration(subject);
        }
        for (int n = 1; n <= 4; n++) {
            due("nothing to be had", alike.talk(n, -1), 0);
            due("all are RATIONED", rationed.talk(n, -1), 0);
            for (int k = 0; k < n; k++) {
                due("talk(" + n + ", " + k + ")", alike.talk(n, k), NONE);
                due("talk(" + n + ", " + k + ") of RATIONED ones", rationed.talk(n, k), NONE);
            }
        }
    }

    static void promise19EachSubjectAndTheFirstOfSeveral() {
        for (int subject = 0; subject < 5; subject++) {
            int bit = 1 << subject;
            LampsOfDissent one = city("h1;p0," + bit + ",0,0;p0,0,0,0;");
            due("the only one", one.talk(1, 0), subject);
            LampsOfDissent more = city("h1;p0," + (32 - bit) + ",0,0;p0,0,0,0;");
            due("the first of several", more.talk(2, 0), subject);
            due("the first of several", more.talk(2, 1), subject);
            more.ration(subject);
            due("that is not RATIONED", more.talk(1, 0), subject == 4 ? NONE : subject + 1);
        }
    }

    static void promise19ARowMayBeginWithNone() {
        // nobody is AT ODDS until 0 has taken the OPINION of the QUIET one: then with 2, by TEMPERS 0 and 7
        LampsOfDissent x = city("h1;p0,0,0,0;p1,1,0,0;p0,0,9,0;");
        due("talk(2, -1)", x.talk(2, -1), 2);
        due("talk(2, 0)", x.talk(2, 0), NONE);
        due("talk(2, 1)", x.talk(2, 1), 0);
    }

    static void promise19ARowMayEndWithNone() {
        // the QUIET one of 3 is AT ODDS with 1, then falls to 2 by those alike
        LampsOfDissent x = city("h1;p1,1,3,0;p0,0,0,0;p1,1,0,0;p1,1,0,0;");
        due("talk(2, -1)", x.talk(2, -1), 1);
        due("talk(2, 0)", x.talk(2, 0), 0);
        due("talk(2, 1)", x.talk(2, 1), NONE);
    }

    static void promise20SettlesBehind1HourAtLeast() {
        due("alike already", city("h1;p0,1,5,0;p0,1,5,0;").settles(), 1);
        due("one alone", city("p0,1,5,0;").settles(), 1);
        due("behind the first", city("h1;p0,1,1,0;p0,0,1,0;s0;").settles(), 1);
        due("behind the second", city("h1;p0,1,2,0;p0,0,1,0;s0;").settles(), 2);
        asks("settles()", LampsOfDissent::settles);
    }

    static void promise20SettlesBehind60HoursAtMost() {
        due("behind 60", city("h1;p2,16,8,0;p0,14,9,0;s2;s0;s16;s0;s2;s0;s0;").settles(), 60);
        String late = "h1;p0,18,9,0;p3,12,4,0;s0;s17;s27;s0;s8;s0;s0;";
        due("behind 61", city(late).settles(), NONE);
        LampsOfDissent x = city(late);
        for (int gone = 1; gone <= 60; gone++) {
            x.pass(1);
            due("behind " + gone, x.settles(), 61 - gone);
        }
        x.pass(1);
        due("settled", x.settles(), 1);
        due("never", city("h1;p3,1,5,0;p3,0,5,0;s0;").settles(), NONE);
    }

    static void promise20RationedSubjectsCountToo() {
        LampsOfDissent x = city("h1;p3,16,5,0;p3,0,5,0;");
        for (int subject = 0; subject < 5; subject++) {
            x.ration(subject);
        }
        due("unlike on a RATIONED one", x.settles(), NONE);
        LampsOfDissent untold = city("h1;p3,16,5,0;p3,0,5,0;s15;");
        due("unlike on one that is not told", untold.settles(), NONE);
        LampsOfDissent free = city("h1;p0,16,3,0;p0,0,3,0;");
        due("at odds ever on", free.settles(), NONE);
        free.ration(4);
        due("the HOURS go by RATIONED", free.settles(), 3);
    }

    static void promise20AQuietOneOfLessThan3IsAtOddsWithNobody() {
        due("falls to 2", city("h1;p1,1,3,0;p3,0,9,0;s0;").settles(), 1);
        due("falls to 3, then 2", city("h1;p1,1,4,0;p3,0,9,0;s0;").settles(), 2);
        due("rises", city("h1;p1,1,3,0;p3,0,9,0;s1;").settles(), NONE);
    }

    // ---- what was seen

    static void promise21HousesAreSuchAsThereAre() {
        due("the last", new LampsOfDissent().seen(2, 0), 1);
        int[] none = {-1, -2, 3, 4, 5, LEAST, MOST};
        for (int h : none) {
            bad("seen(" + h + ", 0)", x -> x.seen(h, 0));
        }
        due("the fifth", city("h5;p0,0,0,0;").seen(4, 0), 1);
        due("a sixth", city("h5;p0,0,0,0;").seen(5, 0), BAD);
    }

    static void promise21LightSeenIs0To60() {
        due("seen(0, 0)", new LampsOfDissent().seen(0, 0), 1);
        due("seen(0, 60)", new LampsOfDissent().seen(0, 60), 1);
        int[] none = {-1, 61, LEAST, MOST};
        for (int v : none) {
            bad("seen(0, " + v + ")", x -> x.seen(0, v));
        }
    }

    static void promise21SeenAreEightAtMost() {
        Supplier<LampsOfDissent> eight = () -> {
            LampsOfDissent x = busy();
            for (int k = 3; k <= 8; k++) {
                due("seen", x.seen(0, x.light(0, 0)), k);
            }
            return x;
        };
        refused(eight, "seen(0, 60) of a ninth", x -> x.seen(0, 60), FULL);
        refused(eight, "seen(0, 61) is BAD ahead of FULL", x -> x.seen(0, 61), BAD);
        refused(eight, "seen(3, 0) is BAD ahead of FULL", x -> x.seen(3, 0), BAD);
        // the eighth is held, too
        LampsOfDissent x = city("h1;p0,1,0,0;p0,0,0,0;s1;");
        for (int k = 1; k <= 7; k++) {
            x.seen(0, 1);
        }
        due("by seven", x.may(0, 0), 16);
        due("the eighth", x.seen(0, 0), 8);
        due("by eight", x.may(0, 0), 0);
    }

    static void promise21SeenOfTheFirstAndTheLastHouse() {
        for (int h = 0; h < 5; h++) {
            LampsOfDissent x = city("h5;p0,31,0," + h + ";p0,0,0," + h + ";");
            for (int other = 0; other < 5; other++) {
                x.seen(other, other == h ? 5 : 0);
            }
            due("may(0, 0)", x.may(0, 0), 1);
            due("may(0, 1)", x.may(0, 1), 31);
            x.seen((h + 1) % 5, 5);
            due("may(0, 0) with another bright", x.may(0, 0), 0);
        }
    }

    static void promise21SeenIsNoAct() {
        LampsOfDissent x = new LampsOfDissent();
        x.seen(0, 0);
        due("undo()", x.undo(), NO);
        due("SEEN", x.count(5), 1);
    }

    static void promise22ForgetNothingAndEight() {
        LampsOfDissent x = city("h1;p0,1,0,0;p0,0,0,0;s1;");
        due("of none", x.forget(), 0);
        for (int k = 1; k <= 8; k++) {
            due("seen(0, 60)", x.seen(0, 60), k);
        }
        due("a ninth", x.seen(0, 60), FULL);
        due("of eight", x.forget(), 8);
        due("SEEN", x.count(5), 0);
        due("may(0, 0)", x.may(0, 0), 32);
        due("once more", x.forget(), 0);
        due("seen(0, 1)", x.seen(0, 1), 1);
        due("what was before is gone", x.may(0, 0), 16);
    }

    static void promise22ForgetTouchesNothingElse() {
        alike(() -> {
            LampsOfDissent x = busy();
            due("forget()", x.forget(), 2);
            return x;
        }, () -> acting(written(BUSY_TEXT)));
    }

    static void promise23PersonsAreSuchAsThereAre() {
        due("the last", new LampsOfDissent().may(5, 0), 32);
        int[] nobody = {-1, 6, 7, 8, LEAST, MOST};
        for (int i : nobody) {
            bad("may(" + i + ", 0)", x -> x.may(i, 0));
            bad("may(" + i + ", 1)", x -> x.may(i, 1));
        }
        due("the eighth", city(EIGHT_PEOPLE).may(7, 0), 32);
        due("a ninth", city(EIGHT_PEOPLE).may(8, 0), BAD);
        asks("may(0, 0)", x -> x.may(0, 0));
        asks("may(0, 1)", x -> x.may(0, 1));
    }

    static void promise23WhatIs0Or1() {
        int[] none = {-1, 2, LEAST, MOST};
        for (int what : none) {
            bad("may(0, " + what + ")", x -> x.may(0, what));
        }
    }

    static void promise23OpinionsAre0To31() {
        for (int other = 0; other <= 31; other++) {
            LampsOfDissent bright = city("h1;p0,7,0,0;p0," + other + ",0,0;");
            due("nothing SEEN", bright.may(0, 0), 32);
            due("nothing SEEN, the first", bright.may(0, 1), 0);
            bright.seen(0, 5);
            due("unlike on all, how many", bright.may(0, 0), 1);
            due("unlike on all", bright.may(0, 1), 31 - other);
            LampsOfDissent dark = city("h1;p0,7,0,0;p0," + other + ",0,0;");
            dark.seen(0, 0);
            due("alike, how many", dark.may(0, 0), 1);
            due("alike", dark.may(0, 1), other);
        }
    }

    static void promise23NoneIfNothingWouldBeSo() {
        LampsOfDissent x = city("h2;p0,7,0,0;p0,0,0,0;p0,0,0,1;");
        x.seen(0, 6);
        due("too bright, how many", x.may(0, 0), 0);
        due("too bright", x.may(0, 1), NONE);
        x.forget();
        x.seen(0, 60);
        due("60, how many", x.may(0, 0), 0);
        due("60", x.may(0, 1), NONE);
        x.forget();
        x.seen(1, 1);
        due("one alone has no LIGHT", x.may(2, 1), NONE);
        x.forget();
        x.seen(0, 1);
        x.seen(0, 2);
        due("both at once", x.may(0, 1), NONE);
    }

    static void promise23SixtyAtMostIsSeenSo() {
        LampsOfDissent x = city("h1;p0,31,9,0;p0,0,9,0;p0,31,9,0;p0,0,9,0;p0,31,9,0;p0,0,9,0;");
        x.seen(0, 60);
        due("whatever they be", x.may(0, 0), 32);
    }

    static void promise23HeldAgainstTheNextHourAsThingsStand() {
        LampsOfDissent x = city("h1;p0,1,0,0;p0,0,0,0;s1;s0;");
        x.seen(0, 1);
        due("talked of", x.may(0, 0), 16);
        x.pass(1);
        due("not talked of", x.may(0, 0), 0);
        x.undo();
        due("talked of again", x.may(0, 0), 16);
        x.ration(0);
        due("RATIONED", x.may(0, 0), 0);
    }

    static void promise24SmokesIfTheyAreAtOdds() {
        due("at odds", city("h1;p2,1,0,0;p0,0,0,0;").smokes(), 1);
        due("the higher is FALSE", city("h1;p0,1,0,0;p2,0,0,0;").smokes(), 1);
        due("both are", city("h1;p2,1,0,0;p2,0,0,0;").smokes(), 1);
        due("alike", city("h1;p2,1,9,0;p0,1,9,0;").smokes(), 0);
        due("alone", city("h1;p2,1,9,0;").smokes(), 0);
        due("in two HOUSES", city("h2;p2,1,9,0;p0,0,9,1;").smokes(), 0);
        due("a QUIET one of 2", city("h1;p2,1,9,0;p1,0,2,0;").smokes(), 0);
        due("a QUIET one of 3", city("h1;p2,1,9,0;p1,0,3,0;").smokes(), 1);
        due("only others are at odds", city("h1;p2,1,9,0;p0,1,9,0;p1,0,2,0;p0,1,9,0;").smokes(), 0);
        due("nobody is FALSE", city("h1;p0,1,9,0;p3,0,9,0;p1,0,9,0;").smokes(), 0);
        due("not talked of", city("h1;p2,1,9,0;p0,0,9,0;s30;").smokes(), 0);
        asks("smokes()", LampsOfDissent::smokes);
    }

    static void promise24BitsOfTheFirstAndTheLastHouse() {
        for (int h = 0; h < 5; h++) {
            due("HOUSE " + h, city("h5;p2,1,0," + h + ";p0,0,0," + h + ";").smokes(), 1 << h);
        }
        StringBuilder text = new StringBuilder("h4;");
        for (int h = 0; h < 4; h++) {
            text.append("p2,1,0,").append(h).append(";p0,0,0,").append(h).append(';');
        }
        due("all", city(text.toString()).smokes(), 15);
    }

    static void promise24InTheNextHour() {
        LampsOfDissent x = city("h1;p2,1,5,0;p0,0,5,0;s0;s1;");
        due("in silence", x.smokes(), 0);
        x.pass(1);
        due("then", x.smokes(), 1);
        x.ration(0);
        due("RATIONED", x.smokes(), 0);
    }

    static void promise25PersonsAreSuchAsThereAre() {
        due("the last", new LampsOfDissent().married(5), 4);
        int[] nobody = {-1, 6, 7, 8, LEAST, MOST};
        for (int i : nobody) {
            bad("married(" + i + ")", x -> x.married(i));
        }
        LampsOfDissent eight = city(EIGHT_PEOPLE);
        int[] whom = {1, 0, 3, 2, 5, 4, 7, 6};
        for (int i = 0; i < 8; i++) {
            due("married(" + i + ") of eight", eight.married(i), whom[i]);
        }
        due("a ninth", eight.married(8), BAD);
        asks("married(0)", x -> x.married(0));
    }

    private static void dueMarried(String text, int... whom) {
        LampsOfDissent x = city(text);
        for (int i = 0; i < whom.length; i++) {
            due(text + " married(" + i + ")", x.married(i), whom[i]);
        }
    }

    static void promise25NoneIfNobodyUnlikeIsLeft() {
        dueMarried("p0,9,0,0;", NONE);
        dueMarried("p0,9,0,0;p0,9,0,0;", NONE, NONE);
        dueMarried("p0,9,0,0;p0,9,0,0;p0,8,0,0;", 2, NONE, 0);
        dueMarried("p0,9,0,0;p0,9,0,0;p0,8,0,0;p0,9,0,0;", 2, NONE, 0, NONE);
        dueMarried("p0,0,0,0;p0,31,0,1;p0,1,0,2;", 1, 0, NONE);
    }

    static void promise25MostSubjectsThenTheLowest() {
        dueMarried("p0,0,0,0;p0,1,0,1;p0,31,0,2;p0,16,0,3;", 2, 3, 0, 1);
        dueMarried("p0,1,0,0;p0,0,0,0;p0,1,0,0;p0,0,0,0;", 1, 0, 3, 2);
        dueMarried("p0,0,0,0;p0,0,0,0;p0,31,0,0;p0,31,0,0;", 2, 3, 0, 1);
        dueMarried("p0,0,0,0;p0,15,0,0;p0,31,0,0;p0,16,0,0;", 2, 3, 0, 1);
    }

    static void promise25OfAll5SubjectsWhereverTheyLive() {
        for (int subject = 0; subject < 5; subject++) {
            LampsOfDissent x = city("h2;p0," + (1 << subject) + ",0,0;p1,0,0,1;s0;");
            x.ration(subject);
            due("unlike on " + subject, x.married(0), 1);
            due("unlike on " + subject, x.married(1), 0);
        }
    }

    private static void dueFalse(String text, int h, int x, int above, int below) {
        due(text + " falseBy(" + h + ", " + x + ", 0)", city(text).falseBy(h, x, 0), above);
        due(text + " falseBy(" + h + ", " + x + ", 1)", city(text).falseBy(h, x, 1), below);
    }

    static void promise26HousesAreSuchAsThereAre() {
        due("the last", new LampsOfDissent().falseBy(2, 10, 0), 1);
        int[] none = {-1, -2, 3, 4, 5, LEAST, MOST};
        for (int h : none) {
            bad("falseBy(" + h + ", 5, 0)", x -> x.falseBy(h, 5, 0));
            bad("falseBy(" + h + ", 5, 1)", x -> x.falseBy(h, 5, 1));
        }
        due("the fifth", city("h5;p0,0,0,0;").falseBy(4, 5, 1), 1);
        due("a sixth", city("h5;p0,0,0,0;").falseBy(5, 5, 1), BAD);
    }

    static void promise26ChancesAre0To10OfTen() {
        String two = "h1;p2,1,0,0;p0,0,0,0;";
        int[] above = {0, 19, 9, 51, 16, 3, 21, 91, 24, 99, 1};
        int[] below = {1, 100, 25, 100, 25, 4, 25, 100, 25, 100, 1};
        for (int x = 0; x <= 10; x++) {
            dueFalse(two, 0, x, above[x], below[x]);
        }
        int[] none = {-1, 11, LEAST, MOST};
        for (int chance : none) {
            bad("falseBy(0, " + chance + ", 0)", x -> x.falseBy(0, chance, 0));
            bad("falseBy(0, " + chance + ", 1)", x -> x.falseBy(0, chance, 1));
        }
        asks("falseBy(0, 5, 0)", x -> x.falseBy(0, 5, 0));
        asks("falseBy(2, 5, 1)", x -> x.falseBy(2, 5, 1));
    }

    static void promise26PartIs0Or1() {
        int[] none = {-1, 2, LEAST, MOST};
        for (int part : none) {
            bad("falseBy(0, 5, " + part + ")", x -> x.falseBy(0, 5, part));
        }
    }

    static void promise26NeverAndForSureInLowestTerms() {
        dueFalse("h2;p0,0,0,0;", 1, 10, 0, 1);
        dueFalse("h2;p0,0,0,0;", 0, 10, 0, 1);
        dueFalse("h1;p0,1,9,0;p0,1,9,0;", 0, 10, 0, 1);
        dueFalse("h1;p0,1,9,0;p0,0,9,0;", 0, 10, 1, 1);
        dueFalse("h1;p0,1,9,0;p0,0,9,0;", 0, 0, 0, 1);
        dueFalse("h1;p2,1,9,0;p2,0,9,0;", 0, 0, 0, 1);
        dueFalse("h1;p0,1,9,0;p0,0,9,0;s0;", 0, 10, 0, 1);
    }

    static void promise26AllEightInOneHouse() {
        String eight = "h1;" + EIGHT_PEOPLE;
        dueFalse(eight, 0, 0, 0, 1);
        dueFalse(eight, 0, 1, 100000000 - 43046721, 100000000);
        // 1 less 1 by 5 to the power of 8
        dueFalse(eight, 0, 8, 390625 - 1, 390625);
        dueFalse(eight, 0, 5, 255, 256);
        dueFalse(eight, 0, 9, 99999999, 100000000);
        dueFalse(eight, 0, 10, 1, 1);
    }

    static void promise26WhateverKindTheyAre() {
        // QUIET of 2: AT ODDS only if he is FALSE himself; then the HOUSE smokes for sure
        dueFalse("h1;p1,1,2,0;p0,0,0,0;", 0, 3, 3, 10);
        dueFalse("h1;p0,0,0,0;p1,1,2,0;", 0, 3, 3, 10);
        dueFalse("h1;p1,1,2,0;p1,0,2,0;", 0, 3, 9, 100);
        dueFalse("h1;p1,1,3,0;p0,0,0,0;", 0, 3, 51, 100);
        // FRANK for FALSE, not QUIET
        dueFalse("h1;p2,1,2,0;p0,0,0,0;", 0, 3, 51, 100);
        dueFalse("h1;p3,1,2,0;p2,0,0,0;", 0, 3, 51, 100);
        // one of another HOUSE counts for nothing
        dueFalse("h2;p0,1,0,0;p0,0,0,0;p2,1,0,1;", 0, 5, 3, 4);
        // 0 is unlike both others: it smokes unless nobody is FALSE
        dueFalse("h1;p0,1,0,0;p0,0,0,0;p0,0,0,0;", 0, 5, 7, 8);
    }

    static void promise27NumbersOfAWinterAre0To9999() {
        LampsOfDissent x = city("h2;p0,0,0,0;");
        due("winter(0, 1, 1)", x.winter(0, 1, 1), 2);
        due("winter(9999, 1, 1)", x.winter(9999, 1, 1), 2);
        int[] none = {-1, 10000, LEAST, MOST};
        for (int z : none) {
            bad("winter(" + z + ", 1, 0)", y -> y.winter(z, 1, 0));
            bad("winter(" + z + ", 1, 1)", y -> y.winter(z, 1, 1));
        }
    }

    static void promise27HoursAre1To40() {
        LampsOfDissent x = city("h5;p0,0,0,0;");
        due("winter(0, 1, 1)", x.winter(0, 1, 1), 5);
        due("winter(0, 40, 1)", x.winter(0, 40, 1), 200);
        int[] none = {0, -1, 41, LEAST, MOST};
        for (int n : none) {
            bad("winter(0, " + n + ", 0)", y -> y.winter(0, n, 0));
            bad("winter(0, " + n + ", 1)", y -> y.winter(0, n, 1));
        }
        due("at the last HOUR", later(city("h5;p0,0,0,0;"), 999).winter(0, 40, 1), 200);
    }

    static void promise27WhatIs0Or1() {
        int[] none = {-1, 2, LEAST, MOST};
        for (int what : none) {
            bad("winter(0, 1, " + what + ")", x -> x.winter(0, 1, what));
        }
        asks("winter(0, 40, 0)", x -> x.winter(0, 40, 0));
        asks("winter(9999, 40, 1)", x -> x.winter(9999, 40, 1));
    }

    /** How often PERSONS 0 and 1, STUBBORN, alone in HOUSE 0 and alike at first, are unlike on the SUBJECTS talked of. */
    private static int litByHand(int z, int n, int people, int talked) {
        int[] opinions = new int[people];
        int lit = 0;
        for (int gone = 0; gone < n; gone++) {
            long x = 7919L * z + 6151L * gone + 1;
            int draw = (int) (x * x % 65521 / 2);
            if (draw / 64 % 3 == 0) {
                opinions[draw % people] ^= 1 << draw / 8 % 5;
            }
            lit += (opinions[0] & talked) != (opinions[1] & talked) ? 1 : 0;
        }
        return lit;
    }

    static void promise27DrawsOfTheFirstAndTheLastWinter() {
        int[] winters = {0, 1, 2, 77, 5000, 9998, 9999};
        int[] hours = {1, 2, 3, 20, 39, 40};
        for (int z : winters) {
            LampsOfDissent two = city("h1;p3,0,9,0;p3,0,9,0;w0,1;");
            LampsOfDissent eight = city("h2;p3,0,9,0;p3,0,9,0;" + "p3,0,9,1;".repeat(6) + "w0,1;");
            for (int n : hours) {
                int lit = litByHand(z, n, 2, 31);
                due("winter(" + z + ", " + n + ", 0)", two.winter(z, n, 0), lit);
                due("winter(" + z + ", " + n + ", 1)", two.winter(z, n, 1), n - lit);
                due("winter(" + z + ", " + n + ", 0) of eight", eight.winter(z, n, 0), litByHand(z, n, 8, 31));
            }
        }
    }

    static void promise27DrawsAlterEachSubject() {
        for (int talked = 1; talked < 32; talked *= 2) {
            LampsOfDissent x = city("h1;p3,0,9,0;p3,0,9,0;w0,1;s" + talked + ";");
            int all = 0;
            for (int z = 0; z < 40; z++) {
                int lit = litByHand(z, 40, 2, talked);
                due("winter(" + z + ", 40, 0)", x.winter(z, 40, 0), lit);
                all += lit;
            }
            check("some of it is LIT", all > 0);
        }
    }

    static void promise27OfFiveWorksAndFiveHouses() {
        String two = "p3,31,9,0;p3,0,9,0;";
        due("each WORK in each HOUR", city("h1;" + two + "w0,1;".repeat(5)).winter(1, 2, 0), 10);
        due("each HOUSE in each HOUR", city("h5;" + two).winter(1, 2, 1), 8);
        due("no WORKS", city("h5;" + two).winter(1, 40, 0), 0);
    }

    static void promise27HoursGoByAndAreTold() {
        LampsOfDissent x = city("h1;p3,31,9,0;p3,0,9,0;w0,5;s1;s0;");
        // z 1: neither of the first two DRAWS alters anything
        due("talked of, then not", x.winter(1, 2, 0), 1);
        due("dark in the second", x.winter(1, 2, 1), 1);
        x.pass(1);
        due("from now on: not talked of", x.winter(1, 1, 0), 0);
        due("from now on: then talked of", x.winter(1, 2, 0), 1);
    }

    // ---- kept

    static void promise28KeptAre2AtMost() {
        Supplier<LampsOfDissent> two = () -> {
            LampsOfDissent x = busy();
            due("the second", x.keep(), 2);
            x.pass(2);
            x.move(1, 2);
            return x;
        };
        due("the first", new LampsOfDissent().keep(), 1);
        refused(two, "keep() of a third", LampsOfDissent::keep, FULL);
        LampsOfDissent x = two.get();
        due("back()", x.back(), 1);
        due("keep() again", x.keep(), 2);
        due("keep() of a third", x.keep(), FULL);
    }

    static void promise28KeepIsNoActAndChangesNothingElse() {
        LampsOfDissent x = busy();
        String before = tellCity(x).replaceFirst("counts \\d+ \\d+ \\d+ \\d+ \\d+ \\d+ \\d+ \\d+", "");
        due("that can be UNDONE", x.count(6), 6);
        due("keep()", x.keep(), 2);
        due("that can be UNDONE", x.count(6), 6);
        check("the city stays", tellCity(x).replaceFirst("counts \\d+ \\d+ \\d+ \\d+ \\d+ \\d+ \\d+ \\d+", "").equals(before));
        due("undo()", x.undo(), 5);
        due("KEPT", x.count(7), 2);
    }

    static void promise29NothingKeptNothingBack() {
        refused(LampsOfDissent::new, "back()", LampsOfDissent::back, NO);
        refused(() -> {
            LampsOfDissent x = busy();
            due("back()", x.back(), 0);
            x.pass(1);
            x.ration(0);
            return x;
        }, "back() once more", LampsOfDissent::back, NO);
        refused(() -> {
            LampsOfDissent x = new LampsOfDissent();
            x.keep();
            x.keep();
            due("back()", x.back(), 1);
            due("back()", x.back(), 0);
            return x;
        }, "back() of a third", LampsOfDissent::back, NO);
    }

    static void promise29AsKeptLast() {
        LampsOfDissent x = new LampsOfDissent();
        x.pass(3);
        x.ration(4);
        x.keep();
        StringBuilder first = new StringBuilder();
        tellShort(x, first);
        x.move(0, 2);
        x.alter(1, 1);
        x.ration(0);
        x.pass(7);
        x.keep();
        StringBuilder second = new StringBuilder();
        tellShort(x, second);
        x.ration(1);
        x.pass(30);
        x.alter(5, 0);
        StringBuilder got = new StringBuilder();
        due("back()", x.back(), 1);
        tellShort(x, got);
        check("as KEPT last", got.toString().equals(second.toString()));
        due("nothing can be UNDONE", x.undo(), NO);
        x.move(3, 0);
        due("an act can be again", x.count(6), 1);
        got.setLength(0);
        due("back()", x.back(), 0);
        tellShort(x, got);
        check("as KEPT first", got.toString().equals(first.toString()));
        due("nothing can be UNDONE", x.count(6), 0);
    }

    static void promise29SeenAndTextStay() {
        LampsOfDissent x = busy();
        due("back()", x.back(), 0);
        due("SEEN", x.count(5), 2);
        due("letters", x.count(8), 29);
        due("fault()", x.fault(), NONE);
        due("lay()", x.lay(), 2);
    }

    static void promise29WhatIsKeptDoesNotChangeWithTheCity() {
        LampsOfDissent x = new LampsOfDissent();
        x.keep();
        x.alter(0, 0);
        x.undo();
        x.pass(30);
        due("back()", x.back(), 0);
        x.keep();
        x.move(5, 0);
        x.pass(1);
        due("back()", x.back(), 0);
        due("OPINIONS", x.person(0, 1), 5);
        due("HOUSE", x.person(5, 3), 2);
    }

    static void promise30WhatIs0To8() {
        int[] none = {-1, 9, 10, LEAST, MOST};
        for (int what : none) {
            bad("count(" + what + ")", x -> x.count(what));
        }
        int[] want = {6, 3, 3, 4, 1, 2, 6, 1, 29};
        for (int what = 0; what <= 8; what++) {
            due("count(" + what + ")", busy().count(what), want[what]);
            int which = what;
            asks("count(" + what + ")", x -> x.count(which));
        }
    }

    static void promise30CountsAtTheirLeast() {
        LampsOfDissent x = city("h1;p0,0,0,0;");
        x.wipe();
        int[] want = {1, 1, 0, 0, 0, 0, 0, 0, 0};
        for (int what = 0; what <= 8; what++) {
            due("count(" + what + ")", x.count(what), want[what]);
        }
    }

    static void promise30CountsAtTheirMost() {
        LampsOfDissent x = city("h5;" + EIGHT_PEOPLE + "w0,1;".repeat(5));
        for (int k = x.count(8); k < 201; k++) {
            x.write('h');
        }
        for (int subject = 0; subject < 5; subject++) {
            x.ration(subject);
        }
        later(x, 999);
        for (int k = 0; k < 9; k++) {
            x.seen(4, 60);
        }
        for (int k = 0; k < 3; k++) {
            x.keep();
        }
        int[] want = {8, 5, 5, 999, 5, 8, 8, 2, 200};
        for (int what = 0; what <= 8; what++) {
            due("count(" + what + ")", x.count(what), want[what]);
        }
    }
}
