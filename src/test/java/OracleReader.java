import java.util.List;
import java.util.function.ToIntFunction;

/** Reads a TEXT straight from its characters, one token ahead, into functions; a FAULT is an exception. */
final class OracleReader {
    static final class Fault extends RuntimeException {
        private static final long serialVersionUID = 1L;
        final int place;

        Fault(int place) {
            this.place = place;
        }
    }

    private static final List<String> KNOWN = List.of("fond", "duty", "number", "day", "tired", "missed",
            "sets", "tires", "grows", "or", "and", "not");

    private final String all;
    private int from;
    private int to;
    private String token;
    private int open;

    OracleReader(String all) {
        this.all = all;
    }

    Oracle.Text read() {
        next();
        ToIntFunction<Oracle.Asked> sets = part("sets");
        ToIntFunction<Oracle.Asked> tires = part("tires");
        ToIntFunction<Oracle.Asked> grows = part("grows");
        if (!token.isEmpty()) throw new Fault(from);
        return new Oracle.Text(sets, tires, grows);
    }

    private void next() {
        from = to;
        while (from < all.length() && (all.charAt(from) == 32 || all.charAt(from) == 10)) from++;
        to = from;
        String rest = all.substring(from);
        for (String form : List.of("[a-z]+", "[0-9]+", "[();+*<=-]")) {
            java.util.regex.Matcher m = java.util.regex.Pattern.compile(form).matcher(rest);
            if (m.lookingAt()) to = from + m.end();
        }
        token = all.substring(from, to);
        boolean word = token.matches("[a-z]+");
        if (rest.isEmpty()) return;
        if (token.isEmpty() || word && !KNOWN.contains(token) || token.matches("[0-9]{5,}")) throw new Fault(from);
    }

    private void must(String what) {
        if (!token.equals(what)) throw new Fault(from);
        next();
    }

    private ToIntFunction<Oracle.Asked> part(String key) {
        must(key);
        ToIntFunction<Oracle.Asked> e = e();
        must(";");
        return e;
    }

    private ToIntFunction<Oracle.Asked> e() {
        ToIntFunction<Oracle.Asked> left = and();
        while (token.equals("or")) {
            next();
            ToIntFunction<Oracle.Asked> a = left, b = and();
            left = x -> a.applyAsInt(x) != 0 || b.applyAsInt(x) != 0 ? 1 : 0;
        }
        return left;
    }

    private ToIntFunction<Oracle.Asked> and() {
        ToIntFunction<Oracle.Asked> left = not();
        while (token.equals("and")) {
            next();
            ToIntFunction<Oracle.Asked> a = left, b = not();
            left = x -> a.applyAsInt(x) != 0 && b.applyAsInt(x) != 0 ? 1 : 0;
        }
        return left;
    }

    private void enter() {
        if (open == 5) throw new Fault(from);
        open++;
        next();
    }

    private ToIntFunction<Oracle.Asked> not() {
        if (token.equals("not")) {
            enter();
            ToIntFunction<Oracle.Asked> a = not();
            open--;
            return x -> a.applyAsInt(x) == 0 ? 1 : 0;
        }
        ToIntFunction<Oracle.Asked> a = sum();
        if (token.equals("<")) {
            next();
            ToIntFunction<Oracle.Asked> b = sum();
            return x -> a.applyAsInt(x) < b.applyAsInt(x) ? 1 : 0;
        }
        if (token.equals("=")) {
            next();
            ToIntFunction<Oracle.Asked> b = sum();
            return x -> a.applyAsInt(x) == b.applyAsInt(x) ? 1 : 0;
        }
        return a;
    }

    private ToIntFunction<Oracle.Asked> sum() {
        ToIntFunction<Oracle.Asked> left = term();
        while (token.equals("+") || token.equals("-")) {
            int sign = token.equals("+") ? 1 : -1;
            next();
            ToIntFunction<Oracle.Asked> a = left, b = term();
            left = x -> a.applyAsInt(x) + sign * b.applyAsInt(x);
        }
        return left;
    }

    private ToIntFunction<Oracle.Asked> term() {
        ToIntFunction<Oracle.Asked> left = one();
        while (token.equals("*")) {
            next();
            ToIntFunction<Oracle.Asked> a = left, b = one();
            left = x -> a.applyAsInt(x) * b.applyAsInt(x);
        }
        return left;
    }

    private ToIntFunction<Oracle.Asked> one() {
        if (token.equals("-")) {
            enter();
            ToIntFunction<Oracle.Asked> a = one();
            open--;
            return x -> -a.applyAsInt(x);
        }
        if (token.equals("(")) {
            enter();
            ToIntFunction<Oracle.Asked> a = e();
            must(")");
            open--;
            return a;
        }
        ToIntFunction<Oracle.Asked> a = simple();
        next();
        return a;
    }

    private ToIntFunction<Oracle.Asked> simple() {
        switch (token) {
            case "fond": return Oracle.Asked::fond;
            case "duty": return Oracle.Asked::duty;
            case "number": return Oracle.Asked::number;
            case "day": return Oracle.Asked::day;
            case "tired": return Oracle.Asked::tired;
            case "missed": return Oracle.Asked::missed;
            default:
                if (!token.matches("[0-9]+")) throw new Fault(from);
                int v = Integer.parseInt(token);
                return x -> v;
        }
    }
}
