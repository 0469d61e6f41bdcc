import java.util.Random;

/** Makes random texts of THE ASSIZE and THE LAW, most of them right. */
final class Texts {
    private static final String[] ODD = {
        "judge", "mercy", "nerve", "hunger", "pay", "case", "grave", "worth", "on", "list", "inn", "hour", "day",
        "move", "harden", "crumb", "if", "or", "and", "not", "(", ")", "leaning", "precedent", "late", "<", ">", "+",
        "kind", ";", ";;", "a", "f", "g", "ab", "0", "7", "12", "99", "100", "101", "999", "1000", "0000", "007",
        "x", "\t", "\u00ff", "\u0000", "Judge", "-1", "judges", "notlate", "5x", "x5",
    };

    private final Random random;

    Texts(Random random) {
        this.random = random;
    }

    private int below(int n) {
        return random.nextInt(n);
    }

    private boolean rarely() {
        return below(40) == 0;
    }

    /** A number, now and then one too great, or written with a zero ahead. */
    private String number(int most) {
        if (rarely()) {
            return String.valueOf(most + 1 + below(3));
        }
        String digits = String.valueOf(below(most + 1));
        return below(12) == 0 && digits.length() < 3 ? "0" + digits : digits;
    }

    private String blank() {
        return below(6) == 0 ? "  " : " ";
    }

    /** Words and numbers with blanks between them where they are needed, or by chance. */
    private String join(String... things) {
        StringBuilder s = new StringBuilder();
        for (String thing : things) {
            if (s.length() > 0 && (sameSort(s.charAt(s.length() - 1), thing.charAt(0)) || below(8) != 0)) {
                s.append(blank());
            }
            s.append(thing);
        }
        return s.toString();
    }

    private static boolean sameSort(char a, char b) {
        return Character.isDigit(a) && Character.isDigit(b) || Character.isLetter(a) && Character.isLetter(b);
    }

    String assize(int judges, int cases) {
        int j = judges;
        int c = cases;
        StringBuilder s = new StringBuilder();
        int lines = rarely() ? 12 + below(4) : 1 + below(9);
        for (int i = 0; i < lines; i++) {
            int sort = below(12);
            if (j == 0 || sort < 2 && j < 5) {
                s.append(judgeLine());
                j++;
            } else if (c == 0 || sort < 6 && c < 8) {
                s.append(caseLine(c));
                c++;
            } else if (sort < 9) {
                s.append(join("list", number(j - 1), number(11), number(c - 1)));
            } else if (sort < 10) {
                s.append(join("inn", number(11), number(100)));
            } else {
                s.append(below(2) == 0 ? join("hour", number(11)) : join("day", number(rarely() ? 999 : 3)));
            }
            s.append(i + 1 < lines ? (below(8) == 0 ? " ; " : ";") : "");
        }
        return spoil(s.toString());
    }

    String judgeLine() {
        String s = join("judge", "mercy", number(below(2) == 0 ? 99 : 30), "nerve", number(below(2) == 0 ? 9 : 2));
        s += below(3) == 0 ? "" : blank() + join("hunger", number(below(3) == 0 ? 99 : 50));
        return s + (below(2) == 0 ? "" : blank() + join("pay", number(below(2) == 0 ? 99 : 40)));
    }

    String caseLine(int cases) {
        String kind = String.valueOf((char) ('a' + below(rarely() ? 8 : below(2) == 0 ? 2 : 6)));
        String grave = below(3) == 0 ? number(99) : String.valueOf(10 * below(8));
        String s = join("case", kind, "grave", grave);
        s += below(3) == 0 ? "" : blank() + join("worth", number(below(2) == 0 ? 99 : 9));
        return s + (cases == 0 || below(5) < 2 ? "" : blank() + join("on", number(cases - 1)));
    }

    String law() {
        if (rarely()) {
            return brimful();
        }
        StringBuilder s = new StringBuilder();
        int lines = rarely() ? 11 + below(4) : 1 + below(5);
        for (int i = 0; i < lines; i++) {
            String verb = below(3) == 0 ? "crumb" : below(2) == 0 ? "move" : "harden";
            s.append(join(verb, number(99)));
            if (below(4) != 0 && lines < 11) {
                s.append(blank()).append(join("if", condition(rarely() ? 8 : 3)));
            }
            s.append(i + 1 < lines ? (below(8) == 0 ? " ; " : ";") : "");
        }
        return spoil(s.toString());
    }

    private String condition(int deep) {
        String s = all(deep);
        while (below(4) == 0) {
            s = join(s, "or", all(deep));
        }
        return s;
    }

    private String all(int deep) {
        String s = atom(deep);
        while (below(4) == 0) {
            s = join(s, "and", atom(deep));
        }
        return s;
    }

    private String atom(int deep) {
        int sort = below(9);
        if (deep > 0 && (sort < 2 || deep > 4)) {
            return sort % 2 == 0 ? join("not", atom(deep - 1)) : join("(", condition(deep - 1), ")");
        }
        if (sort < 5) {
            return new String[] {"leaning", "precedent", "late"}[below(3)];
        }
        return join(sum(), below(2) == 0 ? "<" : ">", sum());
    }

    private String sum() {
        String s = part();
        while (below(4) == 0) {
            s = join(s, "+", part());
        }
        return s;
    }

    private String part() {
        String[] names = {"judge", "hunger", "nerve", "kind", "grave", "worth", "hour"};
        return below(5) < 3 ? names[below(names.length)] : number(rarely() ? 999 : below(2) == 0 ? 60 : 9);
    }

    /** A law of 400 bytes, of which each is a thing or nearly so. */
    private String brimful() {
        StringBuilder s = new StringBuilder("move 9 if ");
        while (s.length() < 398) {
            s.append(below(3) == 0 ? "5+" : below(60) == 0 ? "6<" : "1+");
        }
        return s.append(below(2) == 0 ? "9" : ">9").toString();
    }

    /** Puts an odd thing in, takes a piece out, or cuts the text, now and then. */
    private String spoil(String text) {
        int sort = below(20);
        int at = below(text.length() + 1);
        if (sort == 0) {
            return text.substring(0, at) + ODD[below(ODD.length)] + text.substring(at);
        } else if (sort == 1) {
            return text.substring(0, at);
        } else if (sort == 2) {
            return text.substring(0, at) + text.substring(Math.min(text.length(), at + 1 + below(4)));
        } else if (sort == 3) {
            return text.substring(0, at) + " " + ODD[below(ODD.length)] + " " + text.substring(at);
        } else if (sort == 4) {
            return " " + text + "  ";
        }
        return text;
    }
}
