import java.util.Arrays;

/** A call of the face by its name, to be made on an object or on the plain model. */
final class Call {
    private final String name;
    private final int[] args;

    Call(String name, int... args) {
        this.name = name;
        this.args = args;
    }

    long on(DecreePool x) {
        return switch (name) {
            case "prepare" -> x.prepare(args[0], args[1], args[2], args[3]);
            case "deliver" -> x.deliver(args[0]);
            case "sweep" -> x.sweep(args[0]);
            case "drop" -> x.drop(args[0]);
            case "duplicate" -> x.duplicate(args[0]);
            case "crash" -> x.crash(args[0]);
            case "restart" -> x.restart(args[0]);
            case "tell" -> x.tell(args[0], args[1]);
            case "learned" -> x.learned(args[0], args[1]);
            case "acceptor" -> x.acceptor(args[0], args[1], args[2]);
            case "proposer" -> x.proposer(args[0], args[1], args[2]);
            case "heard" -> x.heard(args[0], args[1], args[2]);
            case "message" -> x.message(args[0], args[1]);
            case "chosen" -> x.chosen(args[0]);
            case "prefix" -> x.prefix(args[0]);
            case "applied" -> x.applied(args[0]);
            case "count" -> x.count(args[0]);
            default -> throw new IllegalStateException(toString());
        };
    }

    /** Makes the call on the model too; one that only looks need not be made there. */
    void on(PlainModel y) {
        switch (name) {
            case "prepare" -> y.prepare(args[0], args[1], args[2], args[3]);
            case "deliver" -> y.deliver(args[0]);
            case "sweep" -> y.sweep(args[0]);
            case "drop" -> y.drop(args[0]);
            case "duplicate" -> y.duplicate(args[0]);
            case "crash" -> y.crash(args[0]);
            case "restart" -> y.restart(args[0]);
            case "tell" -> y.tell(args[0], args[1]);
            default -> { }
        }
    }

    @Override
    public String toString() {
        String list = Arrays.toString(args);
        return name + "(" + list.substring(1, list.length() - 1) + ")";
    }
}
