import java.util.ArrayList;
import java.util.List;
import java.util.Map;
import java.util.regex.Matcher;
import java.util.regex.Pattern;

/** A TEXT read a second way: as a tree of functions, its FAULT thrown. */
final class ModelText {
    interface Node {
        int of(Map<String, Integer> names);
    }

    static final class Fault extends Exception {
        private static final long serialVersionUID = 1;
        final int place;

        Fault(int place) {
            super("at " + place);
            this.place = place;
        }
    }

    private static final Pattern TOKEN = Pattern.compile("[a-z]+|[0-9]+|[();+\\-*<=]|[^ \n]", Pattern.DOTALL);
    private static final List<String> NAMES = List.of("size", "far", "strip", "hour", "kind", "heard");

    final Node breach;
    final Node shoot;
    private final List<String> tokens = new ArrayList<>();
    private final List<Integer> places = new ArrayList<>();
    private int at;
    private int open;

    ModelText(String tape) throws Fault {
        Matcher m = TOKEN.matcher(tape);
        while (m.find()) {
            tokens.add(m.group());
            places.add(m.start());
        }
        tokens.add("");
        places.add(tape.length());
        take("breach");
        breach = either();
        take(";");
        take("shoot");
        shoot = either();
        take(";");
        if (at < tokens.size() - 1) throw fault();
    }

    private Fault fault() {
        return new Fault(places.get(at));
    }

    private boolean sees(String token) {
        return tokens.get(at).equals(token);
    }

    private void take(String token) throws Fault {
        if (!sees(token)) throw fault();
        at++;
    }

    private void opened() throws Fault {
        if (open == 5) throw fault();
        open++;
        at++;
    }

    private static int truth(boolean is) {
        return is ? 1 : 0;
    }

    private Node either() throws Fault {
        Node all = both();
        while (sees("or")) {
            at++;
            Node a = all;
            Node b = both();
            all = n -> truth(a.of(n) != 0 | b.of(n) != 0);
        }
        return all;
    }

    private Node both() throws Fault {
        Node all = negation();
        while (sees("and")) {
            at++;
            Node a = all;
            Node b = negation();
            all = n -> truth(a.of(n) != 0 & b.of(n) != 0);
        }
        return all;
    }

    private Node negation() throws Fault {
        if (sees("not")) {
            opened();
            Node a = negation();
            open--;
            return n -> truth(a.of(n) == 0);
        }
        Node a = sum();
        if (sees("<")) {
            at++;
            Node b = sum();
            return n -> truth(a.of(n) < b.of(n));
        }
        if (sees("=")) {
            at++;
            Node b = sum();
            return n -> truth(a.of(n) == b.of(n));
        }
        return a;
    }

    private Node sum() throws Fault {
        Node all = term();
        while (sees("+") || sees("-")) {
            boolean plus = sees("+");
            at++;
            Node a = all;
            Node b = term();
            all = plus ? n -> a.of(n) + b.of(n) : n -> a.of(n) - b.of(n);
        }
        return all;
    }

    private Node term() throws Fault {
        Node all = one();
        while (sees("*")) {
            at++;
            Node a = all;
            Node b = one();
            all = n -> a.of(n) * b.of(n);
        }
        return all;
    }

    private Node one() throws Fault {
        String token = tokens.get(at);
        if (token.matches("[0-9]{1,4}")) {
            at++;
            int number = Integer.parseInt(token);
            return n -> number;
        }
        if (NAMES.contains(token)) {
            at++;
            return n -> n.get(token);
        }
        if (token.equals("-")) {
            opened();
            Node a = one();
            open--;
            return n -> -a.of(n);
        }
        if (!token.equals("(")) throw fault();
        opened();
        Node all = either();
        take(")");
        open--;
        return all;
    }
}
