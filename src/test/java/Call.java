import java.util.Arrays;

/** A call as data, so that the same one can be made on the program, on the model, and again on another object. */
final class Call {
    final String name;
    private final int[] arguments;

    Call(String name, int... arguments) {
        this.name = name;
        this.arguments = arguments;
    }

    int on(ShareServer x) {
        int[] a = Arrays.copyOf(arguments, 5);
        return switch (name) {
            case "open" -> x.open(a[0], a[1], a[2], a[3], a[4]);
            case "outcome" -> x.outcome(a[0]);
            case "cancel" -> x.cancel(a[0]);
            case "giveUp" -> x.giveUp(a[0]);
            case "close" -> x.close(a[0]);
            case "doom" -> x.doom(a[0], a[1] != 0);
            case "move" -> x.move(a[0], a[1], a[2]);
            case "read" -> x.read(a[0], a[1]);
            case "value" -> x.value();
            case "write" -> x.write(a[0], a[1], a[2]);
            case "lock" -> x.lock(a[0], a[1], a[2], a[3] != 0);
            case "unlock" -> x.unlock(a[0], a[1], a[2]);
            case "sync" -> x.sync();
            case "crash" -> x.crash();
            case "find" -> x.find(a[0], a[1]);
            case "node" -> x.node(a[0], a[1]);
            case "handle" -> x.handle(a[0], a[1]);
            case "count" -> x.count(a[0]);
            default -> throw new IllegalStateException(name);
        };
    }

    int on(Model x) {
        int[] a = Arrays.copyOf(arguments, 5);
        return switch (name) {
            case "open" -> x.open(a[0], a[1], a[2], a[3], a[4]);
            case "outcome" -> x.outcome(a[0]);
            case "cancel" -> x.cancel(a[0]);
            case "giveUp" -> x.giveUp(a[0]);
            case "close" -> x.close(a[0]);
            case "doom" -> x.doom(a[0], a[1] != 0);
            case "move" -> x.move(a[0], a[1], a[2]);
            case "read" -> x.read(a[0], a[1]);
            case "value" -> x.value();
            case "write" -> x.write(a[0], a[1], a[2]);
            case "lock" -> x.lock(a[0], a[1], a[2], a[3] != 0);
            case "unlock" -> x.unlock(a[0], a[1], a[2]);
            case "sync" -> x.sync();
            case "crash" -> x.crash();
            case "find" -> x.find(a[0], a[1]);
            case "node" -> x.node(a[0], a[1]);
            case "handle" -> x.handle(a[0], a[1]);
            case "count" -> x.count(a[0]);
            default -> throw new IllegalStateException(name);
        };
    }

    @Override
    public String toString() {
        String list = Arrays.toString(arguments);
        return name + "(" + list.substring(1, list.length() - 1) + ")";
    }
}
