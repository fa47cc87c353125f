/** Terms: which texts are patterns, where the buffer is wrong, and the grain. */
public final class TermsBufferTest {
    private static final String[] GROUPS = {"[]", "<>", "{}"};

    public static void main(String[] args) {
        Check.test("no pattern begins but with ~ a .. z [ < { F S L R V E", TermsBufferTest::beginnings);
        Check.test("1 to 9 patterns in [ ] < > { }", TermsBufferTest::oneToNine);
        Check.test("none in [ ] < > { } is wrong where the first should begin", TermsBufferTest::emptyGroups);
        Check.test("a tenth pattern in [ ] < > { } is wrong where it begins", TermsBufferTest::tenth);
        Check.test("[ ] < > { } close with their own signs", TermsBufferTest::closings);
        Check.test("the digits of F S V are 1 .. 9", TermsBufferTest::oneDigit);
        Check.test("the digits of L are 1 .. 9", TermsBufferTest::digitsOfL);
        Check.test("R has no digit", TermsBufferTest::noDigit);
        Check.test("V has two patterns", TermsBufferTest::twoPatterns);
        Check.test("the digits of E: n 1 .. 9, k 0 .. n, r 0 .. 9", TermsBufferTest::digitsOfE);
        Check.test("a k of E more than n is wrong where n stands", TermsBufferTest::moreThanN);
        Check.test("wrong at its end when more is wanted", TermsBufferTest::moreIsWanted);
        Check.test("what the buffer had before is behind its end", TermsBufferTest::nothingBehindTheEnd);
        Check.test("wrong at the first one behind a whole pattern", TermsBufferTest::behindAPattern);
        Check.test("the buffer has at most 40 characters, and all of them count", TermsBufferTest::forty);
        Check.test("the grain is the product of the steps of all [ ]", TermsBufferTest::grainOfSteps);
        Check.test("... the k of F and S", TermsBufferTest::grainOfFAndS);
        Check.test("... the m of L", TermsBufferTest::grainOfL);
        Check.test("... and the n of E", TermsBufferTest::grainOfE);
        Check.test("nothing else makes the grain finer", TermsBufferTest::noGrain);
        Check.test("the grain counts what never sounds too", TermsBufferTest::grainOfSilence);
        Check.end();
    }

    private static void beginnings() {
        for (char sign = 33; sign <= 126; sign++) {
            boolean whole = sign == '~' || sign >= 'a' && sign <= 'z';
            boolean begins = "[<{FSLRVE".indexOf(sign) >= 0;
            Check.defines(String.valueOf(sign), whole ? 1 : begins ? -101 : -100);
        }
    }

    private static void oneToNine() {
        for (String group : GROUPS) {
            for (int n = 1; n <= 9; n++) {
                String text = group.charAt(0) + "a".repeat(n) + group.charAt(1);
                Check.defines(text, group.equals("[]") ? n : 1);
            }
        }
        Check.defines("[aaaaaaaa[aaaaaaaaa]]", 81);
        Check.defines("<aaaaaaaa{aaaaaaaaa}>", 1);
        Check.defines("{F2aF2aF2aF2aF2aF2aF2aF2aF2a}", 512);
    }

    private static void emptyGroups() {
        for (String group : GROUPS) {
            Check.wrongAt(group, 1);
            Check.wrongAt("[a" + group + "]", 3);
        }
    }

    private static void tenth() {
        for (String group : GROUPS) {
            char opening = group.charAt(0);
            char closing = group.charAt(1);
            Check.wrongAt(opening + "aaaaaaaaaa" + closing, 10);
            Check.wrongAt(opening + "aaaaaaaaa~" + closing, 10);
            Check.wrongAt(opening + "aaaaaaaaa[a]" + closing, 10);
            Check.wrongAt(opening + "aaaaaaaaaF2a" + closing, 10);
            Check.wrongAt(opening + "aaaaaaaaaa", 10);
            Check.wrongAt(opening + "aaaaaaaaaR", 10);
            Check.wrongAt(opening + "aaaaaaaa[ab]b" + closing, 13);
            Check.wrongAt("R" + opening + "aaaaaaaaE110abb" + closing, 15);
        }
        Check.wrongAt("[<aaaaaaaaaa>]", 11);
    }

    private static void closings() {
        Check.wrongAt("[a>", 2);
        Check.wrongAt("[a}", 2);
        Check.wrongAt("<a]", 2);
        Check.wrongAt("<a}", 2);
        Check.wrongAt("{a]", 2);
        Check.wrongAt("{a>", 2);
        Check.wrongAt("[<a]>", 3);
        Check.wrongAt("{aaaaaaaaa]", 10);
    }

    private static void oneDigit() {
        for (String sign : new String[] {"F", "S", "V"}) {
            String patterns = sign.equals("V") ? "ab" : "a";
            for (int k = 1; k <= 9; k++) {
                Check.defines(sign + k + patterns, sign.equals("V") ? 1 : k);
            }
            for (char wrong : new char[] {'0', '/', ':', 'a', '~', '-', '['}) {
                Check.wrongAt(sign + wrong + patterns, 1);
            }
            Check.wrongAt(sign + "12" + patterns, 2);
        }
    }

    private static void digitsOfL() {
        for (int digit = 1; digit <= 9; digit++) {
            Check.defines("L" + digit + "1a", 1);
            Check.defines("L1" + digit + "a", digit);
        }
        for (char wrong : new char[] {'0', '/', ':', 'a', '~'}) {
            Check.wrongAt("L" + wrong + "1a", 1);
            Check.wrongAt("L1" + wrong + "a", 2);
        }
        Check.wrongAt("L123a", 3);
    }

    private static void noDigit() {
        Check.defines("Ra", 1);
        Check.wrongAt("R0a", 1);
        Check.wrongAt("R1a", 1);
    }

    private static void twoPatterns() {
        Check.defines("V2ab", 1);
        Check.defines("V2[ab]F3c", 6);
        Check.wrongAt("V2a", 3);
        Check.wrongAt("V2a]", 3);
        Check.wrongAt("V2abc", 4);
        Check.wrongAt("[V2a]", 4);
    }

    private static void digitsOfE() {
        for (int n = 1; n <= 9; n++) {
            Check.defines("E0" + n + "0a", n);
            Check.defines("E" + n + n + "0a", n);
        }
        for (int r = 0; r <= 9; r++) {
            Check.defines("E12" + r + "a", 2);
        }
        for (char wrong : new char[] {'/', ':', 'a', '~', ']'}) {
            Check.wrongAt("E" + wrong + "10a", 1);
            Check.wrongAt("E1" + wrong + "0a", 2);
            Check.wrongAt("E11" + wrong + "a", 3);
        }
        Check.wrongAt("E000a", 2);
        Check.wrongAt("E100a", 2);
        Check.wrongAt("E1100a", 4);
    }

    private static void moreThanN() {
        for (int k = 1; k <= 9; k++) {
            for (int n = 0; n < k; n++) {
                Check.wrongAt("E" + k + n + "0a", 2);
                Check.wrongAt("E" + k + n, 2);
            }
            Check.defines("E" + k + k + "0a", k);
        }
        Check.wrongAt("[aE32", 4);
    }

    private static void moreIsWanted() {
        Check.wrongAt("", 0);
        String[] texts = {"F", "F1", "S", "S1", "L", "L1", "L11", "R", "V", "V1", "V1a", "E", "E1", "E11", "E110",
            "[", "[a", "<", "<ab", "{", "{a", "[aaaaaaaaa", "<aaaaaaaaa", "{aaaaaaaaa", "V1F", "[a[b]"};
        for (String text : texts) {
            Check.wrongAt(text, text.length());
        }
    }

    private static void nothingBehindTheEnd() {
        String[] texts = {"[ab]", "<ab>", "{ab}", "F2a", "S2a", "L12a", "Ra", "V2ab", "E120a"};
        for (String text : texts) {
            for (int length = 0; length < text.length(); length++) {
                CyclePatterns x = new CyclePatterns();
                Check.due("define of " + text, Check.define(x, 0, text) > 0, true);
                Check.due("then of its first " + length, Check.define(x, 0, text.substring(0, length)), -100 - length);
                Check.type(x, text);
                Check.due("then of " + text, x.define(0) > 0, true);
            }
        }
    }

    private static void behindAPattern() {
        Check.wrongAt("aa", 1);
        Check.wrongAt("~~", 1);
        Check.wrongAt("a]", 1);
        Check.wrongAt("a!", 1);
        Check.wrongAt("[a]]", 3);
        Check.wrongAt("[a][a]", 3);
        Check.wrongAt("<a>1", 3);
        Check.wrongAt("F2ab", 3);
        Check.wrongAt("RaR", 2);
        Check.wrongAt("V1abA", 4);
        Check.wrongAt("E110a0", 5);
    }

    private static void forty() {
        Check.defines("R".repeat(39) + "a", 1);
        Check.findsWholes("R".repeat(39) + "a", 3, 4, "a 3..4");
        Check.findsWholes("R".repeat(37) + "[a]", 3, 4, "a 3..4");
        Check.wrongAt("R".repeat(40), 40);
        Check.wrongAt("R".repeat(39) + "A", 39);
        Check.wrongAt("R".repeat(38) + "ab", 39);
        Check.wrongAt("[".repeat(40), 40);
        Check.wrongAt("F1".repeat(20), 40);
        for (String end : new String[] {"F", "S", "L", "L1", "V", "V1", "V1a", "E", "E1", "E11", "[a", "<a", "{a"}) {
            Check.wrongAt("R".repeat(40 - end.length()) + end, 40);
        }
        Check.wrongAt("[".repeat(20) + "a" + "]".repeat(19), 40);
        for (String group : GROUPS) {
            String text = group.substring(0, 1).repeat(19) + "a" + group.substring(1).repeat(19);
            Check.findsWholes(text, 3, 4, "a 3..4");
            Check.findsWholes("R" + text, 3, 4, "a 3..4");
        }
        Check.findsWholes("[F1RaF1RbF1RcF1RdF1ReF1RfF1RgF1RhF1F1Ri]", 0, 1,
                "a 0..1, b 1..2, c 2..3, d 3..4, e 4..5, f 5..6, g 6..7, h 7..8, i 8..9");
    }

    private static void grainOfSteps() {
        Check.defines("[a]", 1);
        Check.defines("[ab~]", 3);
        Check.defines("[ab[cd]]", 6);
        Check.defines("[[ab][cd]]", 8);
        Check.defines("[~~~~~~~~~]", 9);
        Check.defines("[<[ab]{[abc]d}>]", 6);
    }

    private static void grainOfFAndS() {
        Check.defines("F7a", 7);
        Check.defines("S7a", 7);
        Check.defines("F2S2a", 4);
        Check.defines("V3F2aS5b", 10);
    }

    private static void grainOfL() {
        Check.defines("L75a", 5);
        Check.defines("L57a", 7);
        Check.defines("L12L13a", 6);
    }

    private static void grainOfE() {
        Check.defines("E350a", 5);
        Check.defines("E357a", 5);
        Check.defines("E120E130a", 6);
    }

    private static void noGrain() {
        Check.defines("~", 1);
        Check.defines("z", 1);
        Check.defines("<abcdefghi>", 1);
        Check.defines("{abcdefghi}", 1);
        Check.defines("RRa", 1);
        Check.defines("V9ab", 1);
        Check.defines("L91a", 1);
        Check.defines("E119a", 1);
        Check.defines("{F2aS3b<L14c[de]>}", 48);
    }

    private static void grainOfSilence() {
        Check.defines("F5~", 5);
        Check.defines("E050a", 5);
        Check.defines("V1aF7b", 7);
        Check.defines("E050F3a", 15);
        Check.defines("<aaaaaaaaS4b>", 4);
    }
}
