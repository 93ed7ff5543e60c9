import java.util.ArrayList;
import java.util.List;

/** Classes that keep rule 5 of LANGUAGE.md, or break it in one way each: StaticState must tell them apart. */
final class StaticSamples {
    private StaticSamples() {
    }

    static final class Kept implements Runnable {
        private static final int ONE = 1;
        private static final String TEXT = "one";
        private static final int[] ROW = {1, 2};
        private static final Kind[] KINDS = Kind.values();
        private int own = ONE;

        private enum Kind {
            FIRST(1), SECOND(2);

            private final int weight;

            Kind(int weight) {
                this.weight = weight;
            }
        }

        @Override
        public void run() {
            own += ROW[1] + TEXT.length() + KINDS[1].weight;
        }
    }

    static final class OpenField implements Runnable {
        private static int count;

        @Override
        public void run() {
            count++;
        }
    }

    static final class EnumThatNotes implements Runnable {
        private enum Book {
            OF_ALL;

            private int noted;
        }

        @Override
        public void run() {
            Book.OF_ALL.noted++;
        }
    }

    static final class ChangedRow implements Runnable {
        private static final long[] ROW = {0};

        @Override
        public void run() {
            ROW[0]++;
        }
    }

    static final class RowInAnEnum implements Runnable {
        private enum Book {
            OF_ALL;

            private final int[] row = {0};
        }

        @Override
        public void run() {
            Book.OF_ALL.row[0]++;
        }
    }

    static final class SharedObject implements Runnable {
        private static final SharedObject OF_ALL = new SharedObject();
        private int noted;

        @Override
        public void run() {
            OF_ALL.noted++;
        }
    }

    static final class SharedList implements Runnable {
        private static final List<Integer> OF_ALL = new ArrayList<>();

        @Override
        public void run() {
            OF_ALL.add(1);
        }
    }
}
