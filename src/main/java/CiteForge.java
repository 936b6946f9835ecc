import java.util.NoSuchElementException;

/** A bibliography in the manner of BibTeX; the numbered promises of DOC.md say what each call does. */
public final class CiteForge {
    public static final int NUMBER = 0;
    public static final int TEXT = 1;
    public static final int MISSING = 2;

    private static final int WARN_WRONG = 1;
    private static final int WARN_UNKNOWN_WORD = 2;
    private static final int WARN_LONG_VALUE = 3;
    private static final int WARN_SAME_KEY = 4;
    private static final int WARN_TOO_MANY = 5;
    private static final int WARN_NO_ENTRY = 6;
    private static final int WARN_KIND = 7;
    private static final int WARN_FULL = 8;
    private static final int WARN_NO_NAME = 9;
    private static final int WARNING_KINDS = 9;

    private static final int TEXT_LIMIT = 60;
    private static final int WORD_LIMIT = 8;

    // Words are held as operation 1 has texts, the first character in the lowest byte.
    private static final long WORD_STRING = 0x676e69727473L;
    private static final long WORD_COMMENT = 0x746e656d6d6f63L;
    private static final long WORD_CROSSREF = 0x66657273736f7263L;
    private static final long NO_WORD = 0L;

    private final int[] warned;
    private final Shelf shelf;
    private final Reader reader;
    private final Citations citations;
    private final Stack stack;
    private final Page page;
    private final Machine machine;

    public CiteForge() {
        warned = new int[WARNING_KINDS + 1];
        shelf = new Shelf(warned);
        reader = new Reader(shelf, warned);
        citations = new Citations(shelf, warned);
        stack = new Stack(warned);
        page = new Page();
        machine = new Machine(shelf, citations, stack, page, warned);
    }

    public int write(long eight, int n) throws IllegalArgumentException, IllegalStateException {
        if (n < 1 || n > 8 || !Reader.allCharacters(eight, n)) {
            throw new IllegalArgumentException();
        }
        if (!reader.hasRoom(n)) {
            throw new IllegalStateException();
        }
        return reader.addCharacters(eight, n);
    }

    public int erase() {
        return reader.dropSource();
    }

    public int read() {
        citations.dropList();
        reader.begin();
        for (int turn = 0; turn < Reader.SOURCE_LIMIT && reader.findItem(); turn++) {
            if (!reader.takeItem()) {
                reader.noteWrong();
            }
        }
        return shelf.size();
    }

    public boolean cite(long word) throws IllegalArgumentException, IllegalStateException {
        long cited = wordOf(word);
        if (cited == NO_WORD) {
            throw new IllegalArgumentException();
        }
        if (citations.isCited(cited)) {
            return false;
        }
        if (citations.isFull()) {
            throw new IllegalStateException();
        }
        citations.add(cited);
        return true;
    }

    public int forget() {
        return citations.dropCitations();
    }

    public int list(int min) throws IllegalArgumentException {
        if (min < 1) {
            throw new IllegalArgumentException();
        }
        citations.makeList(min);
        return citations.listSize();
    }

    public long key(int i) throws IndexOutOfBoundsException {
        if (!citations.isListed(i)) {
            throw new IndexOutOfBoundsException();
        }
        return citations.listed(i).key;
    }

    public boolean sort() {
        return citations.sortList();
    }

    public int field(int i, long word, int k) throws IndexOutOfBoundsException, NoSuchElementException {
        if (!citations.isListed(i)) {
            throw new IndexOutOfBoundsException();
        }
        Text found = shelf.fieldOf(citations.listed(i), wordOf(word));
        if (found == null) {
            throw new NoSuchElementException();
        }
        if (!found.has(k)) {
            throw new IndexOutOfBoundsException();
        }
        return found.at(k);
    }

    public int define(int function, int operation, long n) throws IllegalArgumentException, IllegalStateException {
        if (!Machine.isFunction(function) || !Machine.isOperation(operation)) {
            throw new IllegalArgumentException();
        }
        if (machine.isFull(function)) {
            throw new IllegalStateException();
        }
        return machine.addOperation(function, operation, n);
    }

    public int clear(int function) throws IllegalArgumentException {
        if (!Machine.isFunction(function)) {
            throw new IllegalArgumentException();
        }
        return machine.dropOperations(function);
    }

    public int run(int function, int how) throws IllegalArgumentException, UnsupportedOperationException {
        if (!Machine.isFunction(function) || how < Machine.ONCE || how > Machine.BACKWARDS) {
            throw new IllegalArgumentException();
        }
        if (!machine.start(function, how)) {
            throw new UnsupportedOperationException();
        }
        return machine.operationsDone();
    }

    public int depth() {
        return stack.size();
    }

    public int kind(int k) throws IndexOutOfBoundsException {
        if (!stack.has(k)) {
            throw new IndexOutOfBoundsException();
        }
        return stack.fromTop(k).kind;
    }

    public int value(int k) throws IndexOutOfBoundsException {
        if (!stack.has(k)) {
            throw new IndexOutOfBoundsException();
        }
        Value asked = stack.fromTop(k);
        return asked.kind == NUMBER ? asked.number : asked.text.size();
    }

    public int letter(int k, int i) throws IndexOutOfBoundsException {
        if (!stack.has(k) || !stack.fromTop(k).text.has(i)) {
            throw new IndexOutOfBoundsException();
        }
        return stack.fromTop(k).text.at(i);
    }

    public int empty() {
        return stack.dropAll();
    }

    public int line(int k, int i) throws NoSuchElementException, IndexOutOfBoundsException {
        if (!page.isKept(k)) {
            throw new NoSuchElementException();
        }
        if (!page.keptLine(k).has(i)) {
            throw new IndexOutOfBoundsException();
        }
        return page.keptLine(k).at(i);
    }

    public int count(int what) throws IndexOutOfBoundsException {
        switch (what) {
            case 0:
                return shelf.size();
            case 1:
                return citations.listSize();
            case 2:
                return page.lineCount();
            case 3:
                return page.lengthAtHand();
            case 4:
                return citations.size();
            default:
                throw new IndexOutOfBoundsException();
        }
    }

    public int warnings(int kind) throws IndexOutOfBoundsException {
        if (kind < 1 || kind > WARNING_KINDS) {
            throw new IndexOutOfBoundsException();
        }
        return warned[kind];
    }

    private static boolean isCapital(char c) {
        return c >= 'A' && c <= 'Z';
    }

    private static boolean isSmall(char c) {
        return c >= 'a' && c <= 'z';
    }

    private static boolean isLetter(char c) {
        return (c >= 'a' && c <= 'z') || (c >= 'A' && c <= 'Z');
    }

    private static boolean isDigit(char c) {
        return c >= '0' && c <= '9';
    }

    private static boolean isBlank(char c) {
        return c == ' ' || c == '\n';
    }

    private static boolean isBrace(char c) {
        return c == '{' || c == '}';
    }

    private static boolean isWordCharacter(char c) {
        return isLetter(c) || isDigit(c) || c == ':' || c == '-';
    }

    private static boolean isPrintable(int c) {
        return c >= 32 && c <= 126;
    }

    private static char smallOf(char c) {
        return isCapital(c) ? (char) (c + ('a' - 'A')) : c;
    }

    private static char capitalOf(char c) {
        return isSmall(c) ? (char) (c - ('a' - 'A')) : c;
    }

    /** How many braces are open behind c; a closing one too many counts for nothing. */
    private static int levelBehind(int level, char c) {
        if (c == '{') {
            return level + 1;
        }
        return c == '}' && level > 0 ? level - 1 : level;
    }

    private static char byteOf(long bytes, int i) {
        return (char) ((bytes >>> (8 * i)) & 255);
    }

    /** The word, in small letters, that a long tells as operation 1 has texts, or NO_WORD. */
    private static long wordOf(long bytes) {
        long word = NO_WORD;
        for (int i = 0; i < WORD_LIMIT; i++) {
            char c = byteOf(bytes, i);
            if (!isPrintable(c)) {
                return word;
            }
            if (!isWordCharacter(c)) {
                return NO_WORD;
            }
            word |= (long) smallOf(c) << (8 * i);
        }
        return word;
    }

    /** Characters up to a limit; what would be more is left out. */
    private static final class Text {
        private final char[] chars;
        private int length;

        Text(int limit) {
            chars = new char[limit];
        }

        int size() {
            return length;
        }

        boolean has(int i) {
            return i >= 0 && i < length;
        }

        /** The character at i, or 0, which no text has, where there is none. */
        char at(int i) {
            return i >= 0 && i < length ? chars[i] : 0;
        }

        boolean isFull() {
            return length >= chars.length;
        }

        void reset() {
            length = 0;
        }

        void add(char c) {
            if (length < chars.length) {
                chars[length] = c;
                length++;
            }
        }

        void addPart(Text other, int from, int to) {
            int begin = Math.max(from, 0);
            int end = Math.min(to, other.length);
            int many = Math.min(end - begin, chars.length - length);
            if (many > 0) {
                System.arraycopy(other.chars, begin, chars, length, many);
                length += many;
            }
        }

        void setTo(Text other) {
            length = Math.min(other.length, chars.length);
            System.arraycopy(other.chars, 0, chars, 0, length);
        }

        void setToBytes(long bytes) {
            length = 0;
            for (int i = 0; i < 8; i++) {
                char c = byteOf(bytes, i);
                if (!isPrintable(c)) {
                    return;
                }
                add(c);
            }
        }

        /** Puts two spaces in the place of the characters up to and with i, which is 1 or more to have room. */
        void indentFrom(int i) {
            if (i < 1 || i >= length) {
                return;
            }
            int rest = length - i - 1;
            System.arraycopy(chars, i + 1, chars, 2, rest);
            chars[0] = ' ';
            chars[1] = ' ';
            length = rest + 2;
        }

        boolean isBlankAlone() {
            for (int i = 0; i < length; i++) {
                if (!isBlank(chars[i])) {
                    return false;
                }
            }
            return true;
        }

        /** Below, at or above 0 as this text is before, the same as or behind the other. */
        int against(Text other) {
            int both = Math.min(length, other.length);
            for (int i = 0; i < both; i++) {
                if (chars[i] != other.chars[i]) {
                    return chars[i] - other.chars[i];
                }
            }
            return length - other.length;
        }

        /** This text as a word in small letters, or NO_WORD. */
        long asWord() {
            if (length > WORD_LIMIT) {
                return NO_WORD;
            }
            long word = NO_WORD;
            for (int i = 0; i < length; i++) {
                if (!isWordCharacter(chars[i])) {
                    return NO_WORD;
                }
                word |= (long) smallOf(chars[i]) << (8 * i);
            }
            return word;
        }
    }

    /** An entry of the database, with its own fields alone. */
    private static final class Entry {
        private static final int FIELD_LIMIT = 6;

        private long key;
        private long type;
        // The key that the own crossref names, or NO_WORD.
        private long crossref;
        private int fields;
        private final long[] fieldWords;
        private final Text[] fieldTexts;
        private final Text sortKey;

        Entry() {
            fieldWords = new long[FIELD_LIMIT];
            fieldTexts = new Text[FIELD_LIMIT];
            for (int i = 0; i < FIELD_LIMIT; i++) {
                fieldTexts[i] = new Text(TEXT_LIMIT);
            }
            sortKey = new Text(TEXT_LIMIT);
        }

        void begin(long newKey, long newType) {
            key = newKey;
            type = newType;
            crossref = NO_WORD;
            fields = 0;
            sortKey.reset();
        }

        void addField(long word, Text text) {
            if (fields >= FIELD_LIMIT || ownField(word) != null) {
                return;
            }
            fieldWords[fields] = word;
            fieldTexts[fields].setTo(text);
            fields++;
            if (word == WORD_CROSSREF) {
                crossref = text.asWord();
            }
        }

        Text ownField(long word) {
            for (int i = 0; i < fields; i++) {
                if (fieldWords[i] == word) {
                    return fieldTexts[i];
                }
            }
            return null;
        }
    }

    /** The entries in the database's order. */
    private static final class Shelf {
        private static final int ENTRY_LIMIT = 8;

        // One more than are kept: an entry is read into the first free one before it is asked whether it stays.
        private final Entry[] entries;
        private final int[] warned;
        private int kept;

        Shelf(int[] warned) {
            this.warned = warned;
            entries = new Entry[ENTRY_LIMIT + 1];
            for (int i = 0; i <= ENTRY_LIMIT; i++) {
                entries[i] = new Entry();
            }
        }

        int size() {
            return kept;
        }

        void dropAll() {
            kept = 0;
        }

        Entry entryAt(int i) {
            return entries[i];
        }

        Entry draft() {
            return entries[kept];
        }

        void keepDraft() {
            if (find(draft().key) != null) {
                warned[WARN_SAME_KEY]++;
            } else if (kept >= ENTRY_LIMIT) {
                warned[WARN_TOO_MANY]++;
            } else {
                kept++;
            }
        }

        Entry find(long key) {
            for (int i = 0; i < kept; i++) {
                if (entries[i].key == key) {
                    return entries[i];
                }
            }
            return null;
        }

        /** The own field, or the one of the entry that crossref names; null when it is missing. */
        Text fieldOf(Entry entry, long word) {
            if (word == NO_WORD) {
                return null;
            }
            Text own = entry.ownField(word);
            if (own != null || word == WORD_CROSSREF) {
                return own;
            }
            Entry parent = find(entry.crossref);
            return parent == null ? null : parent.ownField(word);
        }
    }

    /** The database's text, the strings that have names, and the reading of both into the shelf. */
    private static final class Reader {
        static final int SOURCE_LIMIT = 320;
        private static final int STRING_LIMIT = 8;
        private static final int DIGIT_LIMIT = 9;
        private static final int WRONG_LIMIT = 8;

        private final Shelf shelf;
        private final int[] warned;
        private final Text source;
        private final long[] stringWords;
        private final Text[] stringTexts;
        private int strings;
        private int place;
        private int wrong;
        // The piece that was taken last is a part of the source or of a string.
        private Text pieceOf;
        private int pieceBegin;
        private int pieceEnd;
        private final Text value;
        private boolean blankWaits;
        private boolean valueIsCut;

        Reader(Shelf shelf, int[] warned) {
            this.shelf = shelf;
            this.warned = warned;
            source = new Text(SOURCE_LIMIT);
            pieceOf = source;
            stringWords = new long[STRING_LIMIT];
            stringTexts = new Text[STRING_LIMIT];
            for (int i = 0; i < STRING_LIMIT; i++) {
                stringTexts[i] = new Text(TEXT_LIMIT);
            }
            value = new Text(TEXT_LIMIT);
        }

        static boolean allCharacters(long eight, int n) {
            for (int i = 0; i < n; i++) {
                char c = byteOf(eight, i);
                if (!isPrintable(c) && c != '\n') {
                    return false;
                }
            }
            return true;
        }

        boolean hasRoom(int n) {
            return source.size() + n <= SOURCE_LIMIT;
        }

        int addCharacters(long eight, int n) {
            for (int i = 0; i < n; i++) {
                source.add(byteOf(eight, i));
            }
            return source.size();
        }

        int dropSource() {
            int had = source.size();
            source.reset();
            return had;
        }

        void begin() {
            shelf.dropAll();
            strings = 0;
            place = 0;
            wrong = 0;
        }

        /** Passes over all up to and with the next "@": whether there is one to read on at. */
        boolean findItem() {
            if (wrong >= WRONG_LIMIT) {
                return false;
            }
            while (place < source.size()) {
                boolean found = source.at(place) == '@';
                place++;
                if (found) {
                    return true;
                }
            }
            return false;
        }

        void noteWrong() {
            warned[WARN_WRONG]++;
            wrong++;
        }

        // Each take... below answers whether what it asks for stood there; if not, place is where it went wrong.

        boolean takeItem() {
            long type = takeWord();
            if (type == NO_WORD || !takeSign('{')) {
                return false;
            }
            if (type == WORD_COMMENT) {
                return true;
            }
            return type == WORD_STRING ? takeString() : takeEntry(type);
        }

        private boolean takeString() {
            long word = takeWord();
            if (word == NO_WORD || !takeSign('=') || !takeValue() || !takeSign('}')) {
                return false;
            }
            keepString(word);
            return true;
        }

        private boolean takeEntry(long type) {
            long key = takeWord();
            if (key == NO_WORD) {
                return false;
            }
            Entry draft = shelf.draft();
            draft.begin(key, type);
            boolean closed = false;
            for (int turn = 0; turn < SOURCE_LIMIT && !closed && takeSign(','); turn++) {
                closed = takeSign('}');
                if (!closed) {
                    long word = takeWord();
                    if (word == NO_WORD || !takeSign('=') || !takeValue()) {
                        return false;
                    }
                    draft.addField(word, value);
                }
            }
            if (!closed && !takeSign('}')) {
                return false;
            }
            shelf.keepDraft();
            return true;
        }

        private boolean takeValue() {
            value.reset();
            blankWaits = false;
            valueIsCut = false;
            boolean more = true;
            for (int turn = 0; turn < SOURCE_LIMIT && more; turn++) {
                if (!takePiece()) {
                    return false;
                }
                addPiece();
                more = takeSign('#');
            }
            if (valueIsCut) {
                warned[WARN_LONG_VALUE]++;
            }
            return true;
        }

        private boolean takePiece() {
            passBlanks();
            char c = source.at(place);
            if (c == '{') {
                return takeBraced();
            }
            if (c == '"') {
                return takeQuoted();
            }
            if (isDigit(c)) {
                takeDigits();
                return true;
            }
            long word = takeWord();
            if (word == NO_WORD) {
                return false;
            }
            takeMeaning(word);
            return true;
        }

        private boolean takeBraced() {
            int level = 0;
            for (int i = place; i < source.size(); i++) {
                level = levelBehind(level, source.at(i));
                if (level == 0) {
                    setPiece(place + 1, i);
                    place = i + 1;
                    return true;
                }
            }
            place = source.size();
            return false;
        }

        private boolean takeQuoted() {
            int level = 0;
            for (int i = place + 1; i < source.size(); i++) {
                char c = source.at(i);
                if (level == 0 && c == '"') {
                    setPiece(place + 1, i);
                    place = i + 1;
                    return true;
                }
                if (level == 0 && c == '}') {
                    place = i;
                    return false;
                }
                level = levelBehind(level, c);
            }
            place = source.size();
            return false;
        }

        private void takeDigits() {
            int begin = place;
            for (int i = 0; i < DIGIT_LIMIT && isDigit(source.at(place)); i++) {
                place++;
            }
            setPiece(begin, place);
        }

        private void takeMeaning(long word) {
            setPiece(0, 0);
            int known = findString(word);
            if (known < 0) {
                warned[WARN_UNKNOWN_WORD]++;
                return;
            }
            pieceOf = stringTexts[known];
            pieceEnd = pieceOf.size();
        }

        private void setPiece(int begin, int end) {
            pieceOf = source;
            pieceBegin = begin;
            pieceEnd = end;
        }

        private long takeWord() {
            passBlanks();
            long word = NO_WORD;
            for (int i = 0; i < WORD_LIMIT && isWordCharacter(source.at(place)); i++) {
                word |= (long) smallOf(source.at(place)) << (8 * i);
                place++;
            }
            return word;
        }

        private boolean takeSign(char sign) {
            passBlanks();
            if (source.at(place) != sign) {
                return false;
            }
            place++;
            return true;
        }

        private void passBlanks() {
            while (place < source.size() && isBlank(source.at(place))) {
                place++;
            }
        }

        private void addPiece() {
            for (int i = pieceBegin; i < pieceEnd; i++) {
                addToValue(pieceOf.at(i));
            }
        }

        // A space is only put before what follows it, so that none is at a value's beginning and end.
        private void addToValue(char c) {
            if (isBlank(c)) {
                blankWaits = true;
                return;
            }
            if (blankWaits && value.size() > 0) {
                value.add(' ');
            }
            blankWaits = false;
            valueIsCut = valueIsCut || value.isFull();
            value.add(c);
        }

        private int findString(long word) {
            for (int i = 0; i < strings; i++) {
                if (stringWords[i] == word) {
                    return i;
                }
            }
            return -1;
        }

        private void keepString(long word) {
            int known = findString(word);
            if (known >= 0) {
                stringTexts[known].setTo(value);
            } else if (strings >= STRING_LIMIT) {
                warned[WARN_TOO_MANY]++;
            } else {
                stringWords[strings] = word;
                stringTexts[strings].setTo(value);
                strings++;
            }
        }
    }

    /** The words that are cited, and the list that is made of them. */
    private static final class Citations {
        private static final int CITATION_LIMIT = 10;

        private final Shelf shelf;
        private final int[] warned;
        private final long[] words;
        private int cited;
        private final Entry[] list;
        private int listSize;

        Citations(Shelf shelf, int[] warned) {
            this.shelf = shelf;
            this.warned = warned;
            words = new long[CITATION_LIMIT];
            list = new Entry[Shelf.ENTRY_LIMIT];
        }

        int size() {
            return cited;
        }

        boolean isFull() {
            return cited >= CITATION_LIMIT;
        }

        boolean isCited(long word) {
            for (int i = 0; i < cited; i++) {
                if (words[i] == word) {
                    return true;
                }
            }
            return false;
        }

        void add(long word) {
            if (!isFull()) {
                words[cited] = word;
                cited++;
            }
        }

        int dropCitations() {
            int had = cited;
            cited = 0;
            return had;
        }

        int listSize() {
            return listSize;
        }

        boolean isListed(int i) {
            return i >= 0 && i < listSize;
        }

        Entry listed(int i) {
            return list[i];
        }

        void dropList() {
            listSize = 0;
        }

        void makeList(int min) {
            listSize = 0;
            for (int i = 0; i < cited; i++) {
                Entry entry = shelf.find(words[i]);
                if (entry == null) {
                    warned[WARN_NO_ENTRY]++;
                } else {
                    addToList(entry);
                }
            }
            int citedEntries = listSize;
            for (int i = 0; i < shelf.size(); i++) {
                Entry entry = shelf.entryAt(i);
                if (!isCited(entry.key) && referring(entry.key, citedEntries) >= min) {
                    addToList(entry);
                }
            }
        }

        private void addToList(Entry entry) {
            if (listSize < list.length) {
                entry.sortKey.reset();
                list[listSize] = entry;
                listSize++;
            }
        }

        private int referring(long key, int citedEntries) {
            int many = 0;
            for (int i = 0; i < citedEntries; i++) {
                if (list[i].crossref == key) {
                    many++;
                }
            }
            return many;
        }

        boolean sortList() {
            boolean moved = false;
            for (int i = 1; i < listSize; i++) {
                Entry entry = list[i];
                int to = i;
                while (to > 0 && list[to - 1].sortKey.against(entry.sortKey) > 0) {
                    list[to] = list[to - 1];
                    to--;
                    moved = true;
                }
                list[to] = entry;
            }
            return moved;
        }
    }

    /** A value of the stack; its text has nothing unless its kind is TEXT. */
    private static final class Value {
        private int kind;
        private int number;
        private final Text text;

        Value() {
            text = new Text(TEXT_LIMIT);
        }

        void setToNumber(int n) {
            kind = NUMBER;
            number = n;
            text.reset();
        }

        void setToText(Text other) {
            kind = TEXT;
            number = 0;
            text.setTo(other);
        }

        void setToMissing() {
            kind = MISSING;
            number = 0;
            text.reset();
        }

        void setTo(Value other) {
            kind = other.kind;
            number = other.number;
            text.setTo(other.text);
        }

        boolean isNumber() {
            return kind == NUMBER;
        }

        boolean sameAs(Value other) {
            if (isNumber() || other.isNumber()) {
                return kind == other.kind && number == other.number;
            }
            return text.against(other.text) == 0;
        }

        boolean isNothing() {
            return !isNumber() && text.isBlankAlone();
        }
    }

    /** The stack; its values are made once and written over. */
    private static final class Stack {
        private static final int STACK_LIMIT = 12;

        private final Value[] values;
        private final int[] warned;
        private int size;

        Stack(int[] warned) {
            this.warned = warned;
            values = new Value[STACK_LIMIT];
            for (int i = 0; i < STACK_LIMIT; i++) {
                values[i] = new Value();
            }
        }

        int size() {
            return size;
        }

        boolean has(int k) {
            return k >= 0 && k < size;
        }

        Value fromTop(int k) {
            return values[size - 1 - k];
        }

        int dropAll() {
            int had = size;
            size = 0;
            return had;
        }

        void takeAny(Value into) {
            if (size == 0) {
                warned[WARN_KIND]++;
                into.setToNumber(0);
                return;
            }
            size--;
            into.setTo(values[size]);
        }

        int takeNumber() {
            if (size == 0) {
                warned[WARN_KIND]++;
                return 0;
            }
            size--;
            if (!values[size].isNumber()) {
                warned[WARN_KIND]++;
                return 0;
            }
            return values[size].number;
        }

        void takeText(Text into) {
            into.reset();
            if (size == 0) {
                warned[WARN_KIND]++;
                return;
            }
            size--;
            if (values[size].isNumber()) {
                warned[WARN_KIND]++;
                return;
            }
            into.setTo(values[size].text);
        }

        void giveNumber(int n) {
            if (makeRoom()) {
                values[size - 1].setToNumber(n);
            }
        }

        void giveTruth(boolean truth) {
            giveNumber(truth ? 1 : 0);
        }

        /** Gives a text, or missing for null. */
        void giveText(Text text) {
            if (!makeRoom()) {
                return;
            }
            if (text == null) {
                values[size - 1].setToMissing();
            } else {
                values[size - 1].setToText(text);
            }
        }

        void giveAny(Value value) {
            if (makeRoom()) {
                values[size - 1].setTo(value);
            }
        }

        private boolean makeRoom() {
            if (size >= STACK_LIMIT) {
                warned[WARN_FULL]++;
                return false;
            }
            size++;
            return true;
        }
    }

    /** The names of people in a text: finds one, takes it apart and puts it together. */
    private static final class People {
        private static final int PART_LIMIT = 3;

        private int nameBegin;
        private int nameEnd;
        // Words of the name at hand, as places in its text; part p begins with word partBegin[p].
        private final int[] wordBegin;
        private final int[] wordEnd;
        private final boolean[] wordIsLow;
        private int words;
        private final int[] partBegin;
        private int parts;
        // FIRST, VON, LAST and JR are rows of words, each from its begin up to, and without, its end.
        private int firstBegin;
        private int firstEnd;
        private int vonBegin;
        private int vonEnd;
        private int lastBegin;
        private int lastEnd;
        private int jrBegin;
        private int jrEnd;

        People() {
            wordBegin = new int[TEXT_LIMIT];
            wordEnd = new int[TEXT_LIMIT];
            wordIsLow = new boolean[TEXT_LIMIT];
            partBegin = new int[PART_LIMIT];
        }

        static int countNames(Text text) {
            if (text.isBlankAlone()) {
                return 0;
            }
            int names = 1;
            int level = 0;
            for (int i = 0; i < text.size(); i++) {
                level = levelBehind(level, text.at(i));
                if (level == 0 && isAnd(text, i)) {
                    names++;
                }
            }
            return names;
        }

        private static boolean isAnd(Text text, int i) {
            return isBlank(text.at(i)) && text.at(i + 1) == 'a' && text.at(i + 2) == 'n'
                && text.at(i + 3) == 'd' && isBlank(text.at(i + 4));
        }

        /** Goes to the b-th name of a text: whether there is such a name. */
        boolean findName(Text text, int b) {
            nameBegin = 0;
            int names = text.isBlankAlone() ? 0 : 1;
            int level = 0;
            for (int i = 0; i < text.size(); i++) {
                level = levelBehind(level, text.at(i));
                if (level == 0 && isAnd(text, i)) {
                    if (names == b) {
                        nameEnd = i;
                        return true;
                    }
                    names++;
                    // The blank behind "and" stays with the name, as the next "and" may need it.
                    nameBegin = i + 4;
                }
            }
            nameEnd = text.size();
            return names == b && b > 0;
        }

        /** Takes the name that was found apart. */
        void takeApart(Text text) {
            divide(text);
            for (int i = 0; i < words; i++) {
                wordIsLow[i] = isSmall(firstLetterOutside(text, wordBegin[i], wordEnd[i]));
            }
            if (parts == 1) {
                assignOnePart();
            } else {
                assignParts();
            }
        }

        private void divide(Text text) {
            words = 0;
            parts = 1;
            int begin = -1;
            int level = 0;
            for (int i = nameBegin; i < nameEnd; i++) {
                char c = text.at(i);
                if (level > 0 || !isDivider(c)) {
                    begin = begin < 0 ? i : begin;
                    level = levelBehind(level, c);
                    continue;
                }
                addWord(begin, i);
                begin = -1;
                if (c == ',' && parts < PART_LIMIT) {
                    partBegin[parts] = words;
                    parts++;
                }
            }
            addWord(begin, nameEnd);
        }

        private static boolean isDivider(char c) {
            return isBlank(c) || c == '~' || c == ',';
        }

        private void addWord(int begin, int end) {
            if (begin >= 0 && words < TEXT_LIMIT) {
                wordBegin[words] = begin;
                wordEnd[words] = end;
                words++;
            }
        }

        private static char firstLetterOutside(Text text, int begin, int end) {
            int level = 0;
            for (int i = begin; i < end; i++) {
                char c = text.at(i);
                if (level == 0 && isLetter(c)) {
                    return c;
                }
                level = levelBehind(level, c);
            }
            return 0;
        }

        private int firstLow(int end) {
            for (int i = 0; i < end; i++) {
                if (wordIsLow[i]) {
                    return i;
                }
            }
            return -1;
        }

        private int lastLow(int end) {
            for (int i = end - 1; i >= 0; i--) {
                if (wordIsLow[i]) {
                    return i;
                }
            }
            return -1;
        }

        private void assignOnePart() {
            int lastWord = Math.max(words - 1, 0);
            int low = firstLow(lastWord);
            firstBegin = 0;
            firstEnd = low < 0 ? lastWord : low;
            vonBegin = firstEnd;
            vonEnd = low < 0 ? lastWord : lastLow(lastWord) + 1;
            lastBegin = vonEnd;
            lastEnd = words;
            jrBegin = words;
            jrEnd = words;
        }

        private void assignParts() {
            int end = partBegin[1];
            vonBegin = 0;
            vonEnd = lastLow(end - 1) + 1;
            lastBegin = vonEnd;
            lastEnd = end;
            jrBegin = end;
            jrEnd = partBegin[parts - 1];
            firstBegin = jrEnd;
            firstEnd = words;
        }

        /** Puts the name that was taken apart together in a form. */
        void putTogether(Text text, int form, Text result) {
            result.reset();
            switch (form) {
                case 0:
                    addWords(text, firstBegin, firstEnd, result);
                    addWords(text, vonBegin, vonEnd, result);
                    addWords(text, lastBegin, lastEnd, result);
                    addComma(jrBegin, jrEnd, result);
                    addWords(text, jrBegin, jrEnd, result);
                    break;
                case 1:
                    addWords(text, vonBegin, vonEnd, result);
                    addWords(text, lastBegin, lastEnd, result);
                    addComma(jrBegin, jrEnd, result);
                    addWords(text, jrBegin, jrEnd, result);
                    addComma(firstBegin, firstEnd, result);
                    addInitials(text, result);
                    break;
                case 2:
                    addWords(text, lastBegin, lastEnd, result);
                    break;
                default:
                    addInitials(text, result);
                    addWords(text, vonBegin, vonEnd, result);
                    addWords(text, lastBegin, lastEnd, result);
                    break;
            }
        }

        private static void addComma(int begin, int end, Text result) {
            if (begin < end && result.size() > 0) {
                result.add(',');
            }
        }

        private void addWords(Text text, int begin, int end, Text result) {
            for (int i = begin; i < end; i++) {
                if (result.size() > 0) {
                    result.add(' ');
                }
                result.addPart(text, wordBegin[i], wordEnd[i]);
            }
        }

        private void addInitials(Text text, Text result) {
            for (int i = firstBegin; i < firstEnd; i++) {
                if (result.size() > 0) {
                    result.add(' ');
                }
                int place = initialPlace(text, i);
                if (place >= 0) {
                    result.add(text.at(place));
                }
                result.add('.');
            }
        }

        private int initialPlace(Text text, int word) {
            int noBrace = -1;
            for (int i = wordBegin[word]; i < wordEnd[word]; i++) {
                char c = text.at(i);
                if (isLetter(c)) {
                    return i;
                }
                if (noBrace < 0 && !isBrace(c)) {
                    noBrace = i;
                }
            }
            return noBrace;
        }
    }

    /** What the operations 25 to 29 make of a text. */
    private static final class Editing {
        private Editing() {
        }

        static void changeCapitals(Text text, int mode, Text result) {
            result.reset();
            int level = 0;
            boolean stays = true;
            for (int i = 0; i < text.size(); i++) {
                char c = text.at(i);
                level = levelBehind(level, c);
                if (level > 0 || (stays && mode == 0)) {
                    result.add(c);
                } else {
                    result.add(mode == 2 ? capitalOf(c) : smallOf(c));
                }
                boolean colon = c == ':' && level == 0;
                // The very first character is the only one that stays as a blank.
                stays = colon || (stays && isBlank(c) && i > 0);
            }
        }

        static void purify(Text text, Text result) {
            result.reset();
            for (int i = 0; i < text.size(); i++) {
                char c = text.at(i);
                if (c == '-' || c == '~') {
                    result.add(' ');
                } else if (isLetter(c) || isDigit(c) || c == ' ') {
                    result.add(c);
                }
            }
        }

        static int sizeWithoutBraces(Text text) {
            int many = 0;
            for (int i = 0; i < text.size(); i++) {
                if (!isBrace(text.at(i))) {
                    many++;
                }
            }
            return many;
        }

        static void cutBehind(Text text, int b, Text result) {
            result.reset();
            int level = 0;
            int seen = 0;
            for (int i = 0; i < text.size() && seen < b; i++) {
                char c = text.at(i);
                result.add(c);
                level = levelBehind(level, c);
                if (!isBrace(c)) {
                    seen++;
                }
            }
            for (int i = 0; i < level; i++) {
                result.add('}');
            }
        }

        static void cutOut(Text text, int b, int c, Text result) {
            result.reset();
            if (b == 0 || c < 1) {
                return;
            }
            // In longs, as b and c may be as far out as ints go.
            long begin = b > 0 ? (long) b - 1 : (long) text.size() + b + 1 - c;
            long end = begin + c;
            int from = (int) Math.max(begin, 0L);
            int to = (int) Math.min(Math.max(end, 0L), (long) text.size());
            result.addPart(text, from, to);
        }
    }

    /** The output: the line at hand, and the lines that are kept. */
    private static final class Page {
        private static final int AT_HAND_LIMIT = 180;
        private static final int WIDTH = 30;
        private static final int FIRST_BREAK = 3;
        private static final int KEPT_LIMIT = 24;

        private final Text atHand;
        private final Text[] kept;
        private int lines;

        Page() {
            atHand = new Text(AT_HAND_LIMIT);
            kept = new Text[KEPT_LIMIT];
        }

        int lineCount() {
            return lines;
        }

        int lengthAtHand() {
            return atHand.size();
        }

        boolean isKept(int k) {
            return k >= 0 && k < lines && k < KEPT_LIMIT;
        }

        Text keptLine(int k) {
            return kept[k];
        }

        void putOut(Text text) {
            atHand.addPart(text, 0, text.size());
            for (int turn = 0; turn < AT_HAND_LIMIT && atHand.size() > WIDTH; turn++) {
                int place = breakPlace();
                if (place < 0) {
                    return;
                }
                keepLine(place);
                atHand.indentFrom(place);
            }
        }

        void endLine() {
            if (atHand.size() > 0) {
                keepLine(atHand.size());
                atHand.reset();
            }
        }

        private int breakPlace() {
            int place = -1;
            for (int i = FIRST_BREAK; i < atHand.size(); i++) {
                if (i > WIDTH && place >= 0) {
                    return place;
                }
                if (atHand.at(i) == ' ') {
                    place = i;
                }
            }
            return place;
        }

        // A kept line is made as long as it is and never again, so at most 24 are made.
        private void keepLine(int end) {
            if (lines < KEPT_LIMIT) {
                Text line = new Text(end);
                line.addPart(atHand, 0, end);
                kept[lines] = line;
            }
            lines++;
        }
    }

    /** The functions, the globals, and the running of functions for entries. */
    private static final class Machine {
        static final int ONCE = 0;
        static final int FORWARDS = 1;
        static final int BACKWARDS = 2;

        private static final int FUNCTIONS = 6;
        private static final int FUNCTION_LIMIT = 24;
        private static final int OPERATIONS = 30;
        private static final int GLOBALS = 4;
        private static final int FORMS = 4;
        private static final int CAPITAL_MODES = 3;
        private static final int DEPTH_LIMIT = 8;
        private static final int RUN_LIMIT = 400;
        // Each turn takes a value, so far fewer turns than this come before the stack is empty or the run is over.
        private static final int TURN_LIMIT = 1000000;

        private static final int OP_NUMBER = 0;
        private static final int OP_TEXT = 1;
        private static final int OP_FIELD = 2;
        private static final int OP_PLUS = 3;
        private static final int OP_MINUS = 4;
        private static final int OP_LESS = 5;
        private static final int OP_EQUAL = 7;
        private static final int OP_JOIN = 8;
        private static final int OP_DROP = 9;
        private static final int OP_TWICE = 10;
        private static final int OP_SWAP = 11;
        private static final int OP_IS_EMPTY = 12;
        private static final int OP_IF = 13;
        private static final int OP_WHILE = 14;
        private static final int OP_CALL = 15;
        private static final int OP_SET_GLOBAL = 16;
        private static final int OP_GET_GLOBAL = 17;
        private static final int OP_KEY = 18;
        private static final int OP_TYPE = 19;
        private static final int OP_SORT_KEY = 20;
        private static final int OP_PUT_OUT = 21;
        private static final int OP_END_LINE = 22;
        private static final int OP_COUNT_NAMES = 23;
        private static final int OP_FORM_NAME = 24;
        private static final int OP_CAPITALS = 25;
        private static final int OP_PURIFY = 26;
        private static final int OP_SIZE = 27;
        private static final int OP_CUT_BEHIND = 28;
        private static final int OP_CUT_OUT = 29;

        private final Shelf shelf;
        private final Citations citations;
        private final Stack stack;
        private final Page page;
        private final int[] warned;
        private final People people;
        // Operation i of function f is at f * FUNCTION_LIMIT + i.
        private final int[] operations;
        private final long[] arguments;
        private final int[] sizes;
        private final int[] globals;
        private final Text left;
        private final Text right;
        private final Text result;
        private final Value first;
        private final Value second;
        private Entry atHand;
        private int done;

        Machine(Shelf shelf, Citations citations, Stack stack, Page page, int[] warned) {
            this.shelf = shelf;
            this.citations = citations;
            this.stack = stack;
            this.page = page;
            this.warned = warned;
            people = new People();
            operations = new int[FUNCTIONS * FUNCTION_LIMIT];
            arguments = new long[FUNCTIONS * FUNCTION_LIMIT];
            sizes = new int[FUNCTIONS];
            globals = new int[GLOBALS];
            left = new Text(TEXT_LIMIT);
            right = new Text(TEXT_LIMIT);
            result = new Text(TEXT_LIMIT);
            first = new Value();
            second = new Value();
        }

        static boolean isFunction(int function) {
            return function >= 0 && function < FUNCTIONS;
        }

        static boolean isOperation(int operation) {
            return operation >= 0 && operation < OPERATIONS;
        }

        boolean isFull(int function) {
            return sizes[function] >= FUNCTION_LIMIT;
        }

        int addOperation(int function, int operation, long n) {
            int place = function * FUNCTION_LIMIT + sizes[function];
            operations[place] = operation;
            // From 13 on a negative number counts as 0.
            arguments[place] = operation >= OP_IF ? Math.max(n, 0L) : n;
            sizes[function]++;
            return sizes[function];
        }

        int dropOperations(int function) {
            int had = sizes[function];
            sizes[function] = 0;
            return had;
        }

        int operationsDone() {
            return done;
        }

        /** Whether the run came to its end within the limits. */
        boolean start(int function, int how) {
            done = 0;
            atHand = null;
            if (how == ONCE) {
                return runFunction(function, 1);
            }
            int many = citations.listSize();
            for (int i = 0; i < many; i++) {
                atHand = citations.listed(how == FORWARDS ? i : many - 1 - i);
                if (!runFunction(function, 1)) {
                    return false;
                }
            }
            return true;
        }

        private boolean runFunction(long function, int level) {
            if (level > DEPTH_LIMIT) {
                return false;
            }
            int begin = (int) function * FUNCTION_LIMIT;
            int end = begin + sizes[(int) function];
            for (int i = begin; i < end; i++) {
                if (done >= RUN_LIMIT) {
                    return false;
                }
                done++;
                int operation = operations[i];
                if (operation < OP_IF) {
                    workOnStack(operation, arguments[i]);
                } else if (operation > OP_END_LINE) {
                    workOnText(operation, arguments[i]);
                } else if (operation > OP_CALL) {
                    workOnEntry(operation, arguments[i]);
                } else if (!runInner(operation, arguments[i], level + 1)) {
                    return false;
                }
            }
            return true;
        }

        private boolean runInner(int operation, long n, int level) {
            long lower = n % FUNCTIONS;
            long upper = n / FUNCTIONS % FUNCTIONS;
            if (operation == OP_WHILE) {
                return runWhile(upper, lower, level);
            }
            if (operation == OP_IF && stack.takeNumber() > 0) {
                return runFunction(upper, level);
            }
            return runFunction(lower, level);
        }

        private boolean runWhile(long test, long body, int level) {
            for (int turn = 0; turn < TURN_LIMIT; turn++) {
                if (!runFunction(test, level)) {
                    return false;
                }
                if (stack.takeNumber() <= 0) {
                    return true;
                }
                if (!runFunction(body, level)) {
                    return false;
                }
            }
            return false;
        }

        private void workOnStack(int operation, long n) {
            switch (operation) {
                case OP_NUMBER:
                    stack.giveNumber((int) n);
                    break;
                case OP_TEXT:
                    stack.giveText(textOf(n));
                    break;
                case OP_FIELD:
                    stack.giveText(fieldAtHand(wordOf(n)));
                    break;
                case OP_EQUAL:
                    stack.takeAny(second);
                    stack.takeAny(first);
                    stack.giveTruth(first.sameAs(second));
                    break;
                case OP_JOIN:
                    stack.takeText(right);
                    stack.takeText(left);
                    left.addPart(right, 0, right.size());
                    stack.giveText(left);
                    break;
                case OP_DROP:
                    stack.takeAny(first);
                    break;
                case OP_TWICE:
                    stack.takeAny(first);
                    stack.giveAny(first);
                    stack.giveAny(first);
                    break;
                case OP_SWAP:
                    stack.takeAny(second);
                    stack.takeAny(first);
                    stack.giveAny(second);
                    stack.giveAny(first);
                    break;
                case OP_IS_EMPTY:
                    stack.takeAny(first);
                    stack.giveTruth(first.isNothing());
                    break;
                default:
                    stack.giveNumber(reckon(operation));
                    break;
            }
        }

        private Text fieldAtHand(long word) {
            return atHand == null ? null : shelf.fieldOf(atHand, word);
        }

        private int reckon(int operation) {
            int b = stack.takeNumber();
            int a = stack.takeNumber();
            switch (operation) {
                case OP_PLUS:
                    return a + b;
                case OP_MINUS:
                    return a - b;
                case OP_LESS:
                    return a < b ? 1 : 0;
                default:
                    return a > b ? 1 : 0;
            }
        }

        private void workOnEntry(int operation, long n) {
            switch (operation) {
                case OP_SET_GLOBAL:
                    globals[(int) (n % GLOBALS)] = stack.takeNumber();
                    break;
                case OP_GET_GLOBAL:
                    stack.giveNumber(globals[(int) (n % GLOBALS)]);
                    break;
                case OP_KEY:
                    stack.giveText(atHand == null ? null : textOf(atHand.key));
                    break;
                case OP_TYPE:
                    stack.giveText(atHand == null ? null : textOf(atHand.type));
                    break;
                case OP_SORT_KEY:
                    stack.takeText(left);
                    if (atHand != null) {
                        atHand.sortKey.setTo(left);
                    }
                    break;
                case OP_PUT_OUT:
                    stack.takeText(left);
                    page.putOut(left);
                    break;
                case OP_END_LINE:
                    page.endLine();
                    break;
                default:
                    break;
            }
        }

        private Text textOf(long bytes) {
            result.setToBytes(bytes);
            return result;
        }

        private void workOnText(int operation, long n) {
            int c = operation == OP_CUT_OUT ? stack.takeNumber() : 0;
            boolean asksForB = operation == OP_FORM_NAME || operation == OP_CUT_BEHIND || operation == OP_CUT_OUT;
            int b = asksForB ? stack.takeNumber() : 0;
            stack.takeText(left);
            switch (operation) {
                case OP_COUNT_NAMES:
                    stack.giveNumber(People.countNames(left));
                    return;
                case OP_SIZE:
                    stack.giveNumber(Editing.sizeWithoutBraces(left));
                    return;
                case OP_FORM_NAME:
                    if (people.findName(left, b)) {
                        people.takeApart(left);
                        people.putTogether(left, (int) (n % FORMS), result);
                    } else {
                        warned[WARN_NO_NAME]++;
                        result.reset();
                    }
                    break;
                case OP_CAPITALS:
                    Editing.changeCapitals(left, (int) (n % CAPITAL_MODES), result);
                    break;
                case OP_PURIFY:
                    Editing.purify(left, result);
                    break;
                case OP_CUT_BEHIND:
                    Editing.cutBehind(left, b, result);
                    break;
                default:
                    Editing.cutOut(left, b, c, result);
                    break;
            }
            stack.giveText(result);
        }
    }
}
