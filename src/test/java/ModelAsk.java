import java.util.List;

/** The KINDS as classes that take over BODIES from one another, as the document tells of them. */
class ModelAsk {
    int number, term;
    String name;
    List<Integer> trace;

    static ModelAsk of(char sort, int number, int term, String name, List<Integer> trace) {
        ModelAsk one;
        switch (sort) {
            case 'p':
                one = new Plain();
                break;
            case 'q':
                one = new Noble();
                break;
            case 'r':
                one = new Forger();
                break;
            case 's':
                one = new Saint();
                break;
            default:
                one = new Nameless();
                break;
        }
        one.number = number;
        one.term = term;
        one.name = name;
        one.trace = trace;
        return one;
    }

    int size() {
        trace.add(10);
        return term;
    }

    int mark() {
        trace.add(20);
        return number;
    }

    static class Plain extends ModelAsk {
        @Override
        int size() {
            trace.add(11);
            int lent = super.size();
            return lent + mark();
        }

        @Override
        int mark() {
            trace.add(21);
            return super.mark() + name.length();
        }
    }

    static class Noble extends Plain {
        @Override
        int size() {
            trace.add(12);
            return -super.size();
        }

        @Override
        int mark() {
            trace.add(24);
            return 2 * super.mark();
        }
    }

    static class Forger extends Plain {
        @Override
        int mark() {
            trace.add(22);
            return super.mark() - 1000;
        }
    }

    static class Saint extends ModelAsk {
        @Override
        int size() {
            trace.add(13);
            return super.size() - 100;
        }

        @Override
        int mark() {
            trace.add(23);
            int lent = super.mark();
            return lent - size();
        }
    }

    static class Nameless extends Saint {
        @Override
        int size() {
            trace.add(14);
            return 2 * super.size();
        }
    }
}
