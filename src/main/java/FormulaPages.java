import java.util.Arrays;

/** Names with numbers in pages, by an extendible table, with a journal of whole acts. */
public final class FormulaPages {
    private static final int MOST_PAGES = 40;
    private static final int PAGE_BYTES = 64;
    private static final int DEPTH_AT = 0;
    private static final int RECORD_COUNT_AT = 1;
    private static final int RECORDS_AT = 2;
    private static final int SUM_AT = 60;
    private static final int NUMBER_BYTES = 4;
    private static final int LONGEST_NAME = 12;
    private static final int JOURNAL_BYTES = 600;
    private static final int DEEPEST = 5;
    private static final int MOST_ENTRIES = 32;
    private static final int NO_PLACE = -1;
    private static final int NEVER = -1;
    private static final int REFUSED = -1;
    private static final int JOURNAL_FULL = -2;

    private final Shelf live;
    private final Shelf saved;
    private final Alterations alterations;
    private final Journal journal = new Journal();
    private final Name fed = new Name();
    private final Name replayed = new Name();

    public FormulaPages(int pages) {
        int size = Math.max(1, Math.min(pages, MOST_PAGES));
        live = new Shelf(size);
        saved = new Shelf(size);
        alterations = new Alterations(size);
    }

    public boolean feed(int b) throws IllegalArgumentException {
        if (b < 0 || b > 255) {
            throw new IllegalArgumentException("not a byte");
        }
        return fed.extend(b);
    }

    public int put(int v) throws IllegalStateException {
        requireSoundAndFed();
        int answer = act(v);
        fed.clear();
        return answer;
    }

    public boolean has() throws IllegalStateException {
        requireSoundAndFed();
        boolean held = live.holds(fed);
        fed.clear();
        return held;
    }

    public int find() throws IllegalStateException {
        requireSoundAndFed();
        int number = live.numberOf(fed);
        fed.clear();
        return number;
    }

    public int save() throws IllegalStateException {
        requireSound();
        saved.copyFrom(live);
        journal.cutTo(0);
        return live.acts();
    }

    public int crash(int kept) throws IllegalArgumentException {
        if (kept < 0 || kept > journal.length()) {
            throw new IllegalArgumentException("the journal is not so long");
        }
        fed.clear();
        alterations.clear();
        live.copyFrom(saved);
        journal.cutTo(kept);
        journal.cutTo(replay());
        return live.acts();
    }

    public void poke(int page, int i, int mask)
            throws ArrayIndexOutOfBoundsException, IllegalArgumentException {
        requirePageByte(page, i);
        requireMask(mask);
        live.page(page).flip(i, mask);
        alterations.flip(page, i, mask);
    }

    public void pokeJournal(int i, int mask)
            throws ArrayIndexOutOfBoundsException, IllegalArgumentException {
        if (i < 0 || i >= JOURNAL_BYTES) {
            throw new ArrayIndexOutOfBoundsException("no such byte of the journal");
        }
        requireMask(mask);
        journal.flip(i, mask);
    }

    public int badAt() {
        for (int page = 0; page < live.size(); page++) {
            if (live.page(page).isBad()) {
                return page;
            }
        }
        return -1;
    }

    public int byteAt(int page, int i) throws ArrayIndexOutOfBoundsException {
        requirePageByte(page, i);
        return live.page(page).byteOf(i);
    }

    public int entry(int e) throws ArrayIndexOutOfBoundsException {
        if (e < 0 || e >= live.entries()) {
            throw new ArrayIndexOutOfBoundsException("no such entry");
        }
        return live.pageAtEntry(e);
    }

    public int count(int what) throws IllegalStateException {
        switch (what) {
            case 0:
                return live.depth();
            case 1:
                return live.used();
            case 2:
                requireSound();
                return live.names();
            case 3:
                return live.acts();
            case 4:
                return journal.length();
            case 5:
                return live.size();
            default:
                return -1;
        }
    }

    private void requireSound() {
        if (alterations.any()) {
            throw new IllegalStateException("a page is altered");
        }
    }

    private void requireSoundAndFed() {
        requireSound();
        if (fed.length() == 0) {
            throw new IllegalStateException("no name is fed");
        }
    }

    private void requirePageByte(int page, int i) {
        if (page < 0 || page >= live.size() || i < 0 || i >= PAGE_BYTES) {
            throw new ArrayIndexOutOfBoundsException("no such byte of a page");
        }
    }

    private void requireMask(int mask) {
        if (mask < 1 || mask > 255) {
            throw new IllegalArgumentException("not a mask");
        }
    }

    private int act(int v) {
        if (!journal.hasRoomFor(fed)) {
            return JOURNAL_FULL;
        }
        int actsBefore = live.acts();
        if (!live.accept(fed, v)) {
            return REFUSED;
        }
        journal.append(fed, v);
        return actsBefore;
    }

    /** How many bytes of the journal are whole acts that could be done again. */
    private int replay() {
        int at = 0;
        // An act takes more than a byte, so there are fewer acts than bytes.
        for (int acts = 0; acts < JOURNAL_BYTES; acts++) {
            if (!journal.isWholeAt(at)) {
                return at;
            }
            journal.readName(at, replayed);
            if (!live.accept(replayed, journal.numberAt(at))) {
                return at;
            }
            at += journal.actSizeAt(at);
        }
        return at;
    }

    /**
     * Small numbers in a row. A place outside of it reads as 0 and takes nothing, so that indexes
     * are tested here and nowhere else.
     */
    private static final class Row {
        private static final int TURN = 11;
        private static final int FACTOR = 0x9E3779B1;

        private final int[] cells;

        Row(int length) {
            cells = new int[Math.max(0, length)];
        }

        int get(int i) {
            return i >= 0 && i < cells.length ? cells[i] : 0;
        }

        void set(int i, int b) {
            if (i >= 0 && i < cells.length) {
                cells[i] = b;
            }
        }

        void flip(int i, int mask) {
            set(i, get(i) ^ mask);
        }

        int sum(int from, int length) {
            int sum = 0;
            for (int i = from; i < from + length; i++) {
                int b = i >= 0 && i < cells.length ? cells[i] : 0;
                int mixed = sum ^ b;
                sum = ((mixed << TURN) | (mixed >>> (32 - TURN))) * FACTOR;
            }
            return sum;
        }

        int number(int at) {
            int number = 0;
            for (int i = 0; i < NUMBER_BYTES; i++) {
                number = (number << 8) | get(at + i);
            }
            return number;
        }

        void setNumber(int at, int number) {
            for (int i = 0; i < NUMBER_BYTES; i++) {
                set(at + i, (number >>> (8 * (NUMBER_BYTES - 1 - i))) & 255);
            }
        }

        boolean isSame(int at, Row other, int from, int length) {
            for (int i = 0; i < length; i++) {
                if (get(at + i) != other.get(from + i)) {
                    return false;
                }
            }
            return true;
        }

        void copyPart(int at, Row other, int from, int length) {
            for (int i = 0; i < length; i++) {
                set(at + i, other.get(from + i));
            }
        }

        void copyFrom(Row other) {
            System.arraycopy(other.cells, 0, cells, 0, Math.min(cells.length, other.cells.length));
        }

        void clear() {
            Arrays.fill(cells, 0);
        }
    }

    /** A name, and how it lies in a row as a record: its length, its bytes, its number. */
    private static final class Name {
        private final Row bytes = new Row(LONGEST_NAME);
        private int length = 0;

        static int recordSizeOf(int nameLength) {
            return 1 + nameLength + NUMBER_BYTES;
        }

        int length() {
            return length;
        }

        int recordSize() {
            return recordSizeOf(length);
        }

        int hash() {
            return bytes.sum(0, length);
        }

        boolean extend(int b) {
            if (length >= LONGEST_NAME) {
                return false;
            }
            bytes.set(length, b);
            length++;
            return true;
        }

        void clear() {
            length = 0;
        }

        boolean isAt(Row row, int at) {
            return row.get(at) == length && row.isSame(at + 1, bytes, 0, length);
        }

        void writeRecord(Row row, int at, int number) {
            row.set(at, length);
            row.copyPart(at + 1, bytes, 0, length);
            row.setNumber(at + 1 + length, number);
        }

        void readRecord(Row row, int at) {
            length = Math.max(0, Math.min(row.get(at), LONGEST_NAME));
            bytes.copyPart(0, row, at + 1, length);
        }
    }

    /** A page's bytes. Only what is not altered is walked, so the records are always as put. */
    private static final class Page {
        private final Row row = new Row(PAGE_BYTES);
        private int end = RECORDS_AT;

        int byteOf(int i) {
            return row.get(i);
        }

        void flip(int i, int mask) {
            row.flip(i, mask);
        }

        boolean isBad() {
            return row.sum(0, SUM_AT) != row.number(SUM_AT);
        }

        int depth() {
            return row.get(DEPTH_AT);
        }

        int records() {
            return row.get(RECORD_COUNT_AT);
        }

        /** Where the name's record begins, or NO_PLACE. */
        int placeOf(Name name) {
            int records = records();
            int at = RECORDS_AT;
            for (int r = 0; r < records; r++) {
                if (name.isAt(row, at)) {
                    return at;
                }
                at += recordSizeAt(at);
            }
            return NO_PLACE;
        }

        int numberAt(int at) {
            return row.number(numberPlace(at));
        }

        void renumber(int at, int number) {
            row.setNumber(numberPlace(at), number);
            seal();
        }

        /** How many bytes the records take whose hash has the same lowest bits as this one. */
        int bytesOfKin(int hash, int bits) {
            int mask = (1 << bits) - 1;
            int records = records();
            int taken = 0;
            int at = RECORDS_AT;
            for (int r = 0; r < records; r++) {
                if (((hashAt(at) ^ hash) & mask) == 0) {
                    taken += recordSizeAt(at);
                }
                at += recordSizeAt(at);
            }
            return taken;
        }

        void append(Name name, int number) {
            name.writeRecord(row, end, number);
            countRecord(name.recordSize());
            seal();
        }

        /** Hands the records of this page out, by a bit of their hashes, in their order. */
        void dealTo(Page without, Page with, int bit) {
            int records = records();
            int at = RECORDS_AT;
            for (int r = 0; r < records; r++) {
                Page to = ((hashAt(at) >>> bit) & 1) == 0 ? without : with;
                int size = recordSizeAt(at);
                to.row.copyPart(to.end, row, at, size);
                to.countRecord(size);
                at += size;
            }
        }

        void empty(int depth) {
            row.clear();
            row.set(DEPTH_AT, depth);
            end = RECORDS_AT;
        }

        void copyFrom(Page other) {
            row.copyFrom(other.row);
            end = other.end;
        }

        void seal() {
            row.setNumber(SUM_AT, row.sum(0, SUM_AT));
        }

        private void countRecord(int size) {
            row.set(RECORD_COUNT_AT, row.get(RECORD_COUNT_AT) + 1);
            end += size;
        }

        private int recordSizeAt(int at) {
            return Name.recordSizeOf(row.get(at));
        }

        private int numberPlace(int at) {
            return at + 1 + row.get(at);
        }

        private int hashAt(int at) {
            return row.sum(at + 1, row.get(at));
        }
    }

    /** All that is kept and lost together: pages, the table, how many acts. */
    private static final class Shelf {
        private final Page[] pages;
        private final Page spare = new Page();
        private final Row table = new Row(MOST_ENTRIES);
        private int depth = 0;
        private int used = 1;
        private int acts = 0;

        Shelf(int size) {
            pages = new Page[Math.max(1, size)];
            for (int i = 0; i < pages.length; i++) {
                pages[i] = new Page();
            }
        }

        int size() {
            return pages.length;
        }

        int depth() {
            return depth;
        }

        int used() {
            return used;
        }

        int acts() {
            return acts;
        }

        int entries() {
            return 1 << depth;
        }

        int pageAtEntry(int e) {
            return table.get(e);
        }

        Page page(int number) {
            return number >= 0 && number < pages.length ? pages[number] : spare;
        }

        int names() {
            int names = 0;
            for (int i = 0; i < pages.length; i++) {
                names += pages[i].records();
            }
            return names;
        }

        boolean holds(Name name) {
            return pageFor(name.hash()).placeOf(name) != NO_PLACE;
        }

        int numberOf(Name name) {
            Page page = pageFor(name.hash());
            int at = page.placeOf(name);
            return at == NO_PLACE ? 0 : page.numberAt(at);
        }

        /** Puts the name, or answers false and changes nothing if it is refused. */
        boolean accept(Name name, int number) {
            int hash = name.hash();
            Page page = pageFor(hash);
            int at = page.placeOf(name);
            if (at != NO_PLACE) {
                page.renumber(at, number);
                acts++;
                return true;
            }
            int splits = splitsFor(page, hash, name.recordSize());
            if (splits == NEVER) {
                return false;
            }
            for (int i = 0; i < splits; i++) {
                split(pageNumberFor(hash));
            }
            pageFor(hash).append(name, number);
            acts++;
            return true;
        }

        void copyFrom(Shelf other) {
            for (int i = 0; i < pages.length; i++) {
                pages[i].copyFrom(other.page(i));
            }
            table.copyFrom(other.table);
            depth = other.depth;
            used = other.used;
            acts = other.acts;
        }

        private int pageNumberFor(int hash) {
            return table.get(hash & (entries() - 1));
        }

        private Page pageFor(int hash) {
            return page(pageNumberFor(hash));
        }

        /**
         * How many splits make room for a record, or NEVER. It is told ahead of the first split,
         * because a refusal must leave no trace of the splits that led to it.
         */
        private int splitsFor(Page page, int hash, int size) {
            int before = page.depth();
            for (int splits = 0; before + splits <= DEEPEST; splits++) {
                if (used + splits > pages.length) {
                    return NEVER;
                }
                int taken = page.bytesOfKin(hash, before + splits);
                if (RECORDS_AT + taken + size <= SUM_AT) {
                    return splits;
                }
            }
            return NEVER;
        }

        private void split(int number) {
            Page page = page(number);
            int bit = page.depth();
            if (bit == depth) {
                doubleTable();
            }
            int freshNumber = used;
            Page fresh = page(freshNumber);
            used++;
            spare.copyFrom(page);
            page.empty(bit + 1);
            fresh.empty(bit + 1);
            spare.dealTo(page, fresh, bit);
            page.seal();
            fresh.seal();
            redirect(number, freshNumber, bit);
        }

        private void doubleTable() {
            table.copyPart(entries(), table, 0, entries());
            depth++;
        }

        private void redirect(int from, int to, int bit) {
            for (int e = 0; e < entries(); e++) {
                if (table.get(e) == from && ((e >>> bit) & 1) == 1) {
                    table.set(e, to);
                }
            }
        }
    }

    /**
     * Which bits of the pages are the other way round than they were put. The sums cannot tell it:
     * a poked page may still have the sum that its last bytes tell.
     */
    private static final class Alterations {
        private final Row masks;
        private int alteredBytes = 0;

        Alterations(int pages) {
            masks = new Row(pages * PAGE_BYTES);
        }

        int maskOf(int page, int i) {
            return masks.get(page * PAGE_BYTES + i);
        }

        void flip(int page, int i, int mask) {
            int before = maskOf(page, i);
            int after = before ^ mask;
            masks.set(page * PAGE_BYTES + i, after);
            alteredBytes += (after == 0 ? 0 : 1) - (before == 0 ? 0 : 1);
        }

        boolean any() {
            return alteredBytes != 0;
        }

        void clear() {
            masks.clear();
            alteredBytes = 0;
        }
    }

    /** Acts one behind the other: each a record and the lowest byte of its sum. */
    private static final class Journal {
        private final Row row = new Row(JOURNAL_BYTES);
        private int length = 0;

        int length() {
            return length;
        }

        void cutTo(int shorter) {
            length = shorter;
        }

        boolean hasRoomFor(Name name) {
            return length + name.recordSize() + 1 <= JOURNAL_BYTES;
        }

        void append(Name name, int number) {
            name.writeRecord(row, length, number);
            row.set(length + name.recordSize(), checkByte(length, name.recordSize()));
            length += name.recordSize() + 1;
        }

        void flip(int i, int mask) {
            row.flip(i, mask);
        }

        boolean isWholeAt(int at) {
            if (at >= length) {
                return false;
            }
            int nameLength = row.get(at);
            if (nameLength < 1 || nameLength > LONGEST_NAME || at + actSizeAt(at) > length) {
                return false;
            }
            int recordSize = Name.recordSizeOf(nameLength);
            return row.get(at + recordSize) == checkByte(at, recordSize);
        }

        int actSizeAt(int at) {
            return Name.recordSizeOf(row.get(at)) + 1;
        }

        void readName(int at, Name name) {
            name.readRecord(row, at);
        }

        int numberAt(int at) {
            return row.number(at + 1 + row.get(at));
        }

        private int checkByte(int at, int recordSize) {
            return row.sum(at, recordSize) & 255;
        }
    }
}
