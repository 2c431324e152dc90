import java.util.ArrayList;
import java.util.List;
import java.util.Map;
import java.util.TreeMap;

/**
 * The document once more, written as plainly as can be and in another way than the program: every state of the tree is kept
 * whole, so that a crash is no undoing but a going back.
 */
final class Model {
    private record Place(int directory, int name) { }

    private record Lock(int handle, int first, int last, boolean alone) { }

    private record Item(Place place, boolean folder, List<Integer> cells) { }

    private record Tree(int given, Map<Integer, Item> items) {
        Tree with(int given, int number, Item item) {
            Map<Integer, Item> next = new TreeMap<>(items);
            if (item == null) {
                next.remove(number);
            } else {
                next.put(number, item);
            }
            return new Tree(given, next);
        }
    }

    private static final class Handle {
        int node;
        int mode;
        int grant;
        int client;
    }

    private record Wanted(int client, Place place, int mode, int wish) { }

    /** The tree after so many changes. */
    private final List<Tree> history = new ArrayList<>();
    private int durable;
    private final Map<Integer, Boolean> doomed = new TreeMap<>();
    private final Map<Integer, Handle> handles = new TreeMap<>();
    private final Map<Integer, List<Lock>> locks = new TreeMap<>();
    private final List<Wanted> wanted = new ArrayList<>();
    private final List<Integer> outcomes = new ArrayList<>();
    private int handlesMade;
    private int lastRead;

    Model() {
        Item root = new Item(new Place(-3, -3), true, List.of());
        history.add(new Tree(0, Map.of(0, root)));
    }

    private Tree tree() {
        return history.get(history.size() - 1);
    }

    private void change(Tree next) {
        history.add(next);
        if (history.size() - 1 - durable == 6) {
            durable = history.size() - 1;
        }
    }

    private boolean isFolder(int number) {
        Item item = tree().items().get(number);
        return item != null && item.folder();
    }

    private int at(Place place) {
        return tree().items().entrySet().stream().filter(e -> e.getValue().place().equals(place)).map(Map.Entry::getKey)
            .findFirst().orElse(-3);
    }

    private long inside(int number) {
        return tree().items().values().stream().filter(i -> i.place().directory() == number).count();
    }

    private List<Handle> of(int node) {
        return handles.values().stream().filter(h -> h.node == node).toList();
    }

    private List<Lock> locksOf(int node) {
        return locks.computeIfAbsent(node, n -> new ArrayList<>());
    }

    /** The first cell and the length of each lock of a handle, for tests that look for one to unlock. */
    List<int[]> rangesOf(int handle) {
        List<int[]> ranges = new ArrayList<>();
        Handle h = handles.get(handle);
        for (Lock l : h == null ? List.<Lock>of() : locksOf(h.node)) {
            if (l.handle() == handle) {
                ranges.add(new int[] {l.first(), l.last() - l.first() + 1});
            }
        }
        return ranges;
    }

    int open(int client, int directory, int name, int mode, int wish) {
        boolean numbers = client >= 0 && client <= 3 && directory >= 0 && directory <= 24 && name >= 0 && name <= 15
            && mode >= 0 && mode <= 1023 && wish >= 0 && wish <= 2;
        if (!numbers || mode % 8 == 0 || mode >= 512 && mode / 4 % 2 == 0) {
            return -1;
        }
        wanted.add(new Wanted(client, new Place(directory, name), mode, wish));
        outcomes.add(attempt(wanted.get(wanted.size() - 1)));
        return wanted.size();
    }

    private int attempt(Wanted w) {
        boolean make = w.mode() / 64 % 2 == 1;
        boolean fresh = w.mode() / 128 % 2 == 1;
        boolean folder = w.mode() / 256 % 2 == 1;
        if (!isFolder(w.place().directory())) {
            return -3;
        }
        int node = at(w.place());
        if (node == -3) {
            if (!make) {
                return -3;
            }
            if (doomed.getOrDefault(w.place().directory(), false)) {
                return -7;
            }
            if (tree().given() == 24 || handles.size() == 12) {
                return -2;
            }
            node = tree().given() + 1;
            change(tree().with(node, node, new Item(w.place(), folder, java.util.Collections.nCopies(32, 0))));
            return handleFor(w, node);
        }
        if (make && fresh) {
            return -4;
        }
        if (isFolder(node) != folder) {
            return -5;
        }
        for (Handle h : of(node)) {
            if (h.grant == 2 || h.grant == 3) {
                h.grant = 3;
                return 0;
            }
        }
        if (doomed.getOrDefault(node, false)) {
            return -7;
        }
        for (Handle h : of(node)) {
            for (int bit = 1; bit <= 4; bit *= 2) {
                boolean mine = w.mode() / bit % 2 == 1 && h.mode / (8 * bit) % 2 == 0;
                boolean its = h.mode / bit % 2 == 1 && w.mode() / (8 * bit) % 2 == 0;
                if (mine || its) {
                    return -6;
                }
            }
        }
        return handles.size() == 12 ? -2 : handleFor(w, node);
    }

    private int handleFor(Wanted w, int node) {
        Handle h = new Handle();
        h.node = node;
        h.mode = w.mode();
        h.client = w.client();
        if (isFolder(node)) {
            h.grant = 0;
        } else if (w.wish() == 2 && of(node).isEmpty()) {
            h.grant = 2;
        } else {
            h.grant = Math.min(w.wish(), 1);
        }
        handlesMade++;
        handles.put(handlesMade, h);
        return handlesMade;
    }

    private void again() {
        for (int i = 0; i < wanted.size(); i++) {
            if (outcomes.get(i) == 0) {
                outcomes.set(i, attempt(wanted.get(i)));
            }
        }
    }

    int outcome(int request) {
        return request < 1 || request > outcomes.size() ? -1 : outcomes.get(request - 1);
    }

    int cancel(int request) {
        if (request < 1 || request > outcomes.size() || outcomes.get(request - 1) != 0) {
            return -1;
        }
        outcomes.set(request - 1, -9);
        return 0;
    }

    int giveUp(int handle) {
        Handle h = handles.get(handle);
        if (h == null || h.grant == 0) {
            return -1;
        }
        int before = h.grant;
        h.grant = before == 1 ? 0 : 1;
        if (before == 3) {
            again();
        }
        return h.grant;
    }

    int close(int handle) {
        Handle h = handles.remove(handle);
        if (h == null) {
            return -1;
        }
        locksOf(h.node).removeIf(l -> l.handle() == handle);
        if (h.mode >= 512 && inside(h.node) == 0) {
            doomed.put(h.node, true);
        }
        if (of(h.node).isEmpty() && doomed.getOrDefault(h.node, false)) {
            doomed.remove(h.node);
            if (inside(h.node) == 0) {
                change(tree().with(tree().given(), h.node, null));
            }
        }
        if (h.grant == 3) {
            again();
        }
        return handles.size();
    }

    int doom(int handle, boolean on) {
        Handle h = handles.get(handle);
        if (h == null || h.mode / 4 % 2 == 0 || on && inside(h.node) > 0) {
            return -1;
        }
        doomed.put(h.node, on);
        return 0;
    }

    int move(int handle, int directory, int name) {
        Handle h = handles.get(handle);
        if (h == null || directory < 0 || directory > 24 || name < 0 || name > 15 || h.mode / 4 % 2 == 0) {
            return -1;
        }
        if (!isFolder(directory)) {
            return -3;
        }
        if (doomed.getOrDefault(directory, false)) {
            return -7;
        }
        for (int d = directory; d != -3; d = tree().items().get(d).place().directory()) {
            if (d == h.node) {
                return -1;
            }
        }
        Place place = new Place(directory, name);
        if (at(place) != -3) {
            return -4;
        }
        Item item = tree().items().get(h.node);
        change(tree().with(tree().given(), h.node, new Item(place, item.folder(), item.cells())));
        return 0;
    }

    int read(int handle, int cell) {
        Handle h = handles.get(handle);
        if (h == null || cell < 0 || cell > 31 || h.mode % 2 == 0 || isFolder(h.node)) {
            return -1;
        }
        for (Lock l : locksOf(h.node)) {
            if (l.first() <= cell && cell <= l.last() && l.alone() && l.handle() != handle) {
                return -8;
            }
        }
        lastRead = tree().items().get(h.node).cells().get(cell);
        return 0;
    }

    int value() {
        return lastRead;
    }

    int write(int handle, int cell, int value) {
        Handle h = handles.get(handle);
        if (h == null || cell < 0 || cell > 31 || h.mode / 2 % 2 == 0 || isFolder(h.node)) {
            return -1;
        }
        for (Lock l : locksOf(h.node)) {
            if (l.first() <= cell && cell <= l.last() && (l.handle() != handle || !l.alone())) {
                return -8;
            }
        }
        for (Handle other : of(h.node)) {
            if (other != h && other.grant == 1) {
                other.grant = 0;
            }
        }
        Item item = tree().items().get(h.node);
        List<Integer> cells = new ArrayList<>(item.cells());
        cells.set(cell, value);
        change(tree().with(tree().given(), h.node, new Item(item.place(), false, cells)));
        return 0;
    }

    int lock(int handle, int first, int n, boolean alone) {
        Handle h = handles.get(handle);
        if (h == null || first < 0 || first > 31 || n < 1 || n > 32 || first + n > 32 || isFolder(h.node)) {
            return -1;
        }
        for (Lock l : locksOf(h.node)) {
            for (int cell = first; cell < first + n; cell++) {
                if (l.first() <= cell && cell <= l.last() && (l.alone() || alone)) {
                    return -8;
                }
            }
        }
        if (locksOf(h.node).size() == 8) {
            return -2;
        }
        locksOf(h.node).add(new Lock(handle, first, first + n - 1, alone));
        return locksOf(h.node).size();
    }

    int unlock(int handle, int first, int n) {
        Handle h = handles.get(handle);
        if (h == null || n < 1 || n > 32) {
            return -1;
        }
        for (Lock l : locksOf(h.node)) {
            if (l.handle() == handle && l.first() == first && l.last() == first + n - 1) {
                locksOf(h.node).remove(l);
                return locksOf(h.node).size();
            }
        }
        return -1;
    }

    int sync() {
        durable = history.size() - 1;
        return durable;
    }

    int crash() {
        history.subList(durable + 1, history.size()).clear();
        handles.clear();
        locks.clear();
        doomed.clear();
        outcomes.replaceAll(o -> o == 0 ? -9 : o);
        return durable;
    }

    int find(int directory, int name) {
        boolean numbers = directory >= 0 && directory <= 24 && name >= 0 && name <= 15;
        return numbers ? at(new Place(directory, name)) : -1;
    }

    int node(int node, int what) {
        Item item = tree().items().get(node);
        if (item == null) {
            return -1;
        }
        return switch (what) {
            case 0 -> item.place().directory();
            case 1 -> item.place().name();
            case 2 -> item.folder() ? 1 : 0;
            case 3 -> doomed.getOrDefault(node, false) ? 1 : 0;
            case 4 -> of(node).size();
            case 5 -> locksOf(node).size();
            case 6 -> (int) inside(node);
            default -> -1;
        };
    }

    int handle(int handle, int what) {
        Handle h = handles.get(handle);
        if (h == null) {
            return -1;
        }
        return switch (what) {
            case 0 -> h.node;
            case 1 -> h.mode % 8;
            case 2 -> h.mode / 8 % 8;
            case 3 -> h.grant;
            case 4 -> h.client;
            default -> -1;
        };
    }

    int count(int what) {
        return switch (what) {
            case 0 -> tree().given();
            case 1 -> handles.size();
            case 2 -> (int) outcomes.stream().filter(o -> o == 0).count();
            case 3 -> history.size() - 1;
            case 4 -> durable;
            case 5 -> wanted.size();
            case 6 -> handlesMade;
            default -> -1;
        };
    }
}
