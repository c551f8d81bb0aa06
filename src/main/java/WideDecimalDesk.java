/** A desk for decimal numbers of up to 96 bits with a scale; what each call promises stands in DOC.md. */
public final class WideDecimalDesk {

    private static final int REGISTERS = 6;
    private static final int GREATEST_SCALE = 28;
    private static final int TEXT_ROOM = 40;
    // No pattern of 40 characters writes more than 79: sign, 31 digits with 10 commas, point, 35 digits, percent.
    private static final int OUTPUT_ROOM = 80;

    private static final int SUM = 0;
    private static final int DIFFERENCE = 1;
    private static final int PRODUCT = 2;
    private static final int QUOTIENT = 3;
    private static final int REMAINDER = 4;

    private static final int HALF_TO_EVEN = 0;
    private static final int HALF_AWAY = 1;
    private static final int TOWARDS_ZERO = 2;
    private static final int DOWNWARDS = 3;
    private static final int UPWARDS = 4;

    private final Register[] registers;
    private final Line text;
    private final Line output;
    // The rows below are only worked in: they hold nothing from one call to the next.
    private final Draft left;
    private final Draft right;
    private final Whole factor;
    private final LongDivision division;
    private final Digits figures;
    private final Pattern pattern;

    public WideDecimalDesk() {
        registers = new Register[REGISTERS];
        for (int i = 0; i < REGISTERS; i++) {
            registers[i] = new Register();
        }
        text = new Line(TEXT_ROOM);
        output = new Line(OUTPUT_ROOM);
        left = new Draft();
        right = new Draft();
        factor = new Whole();
        division = new LongDivision();
        figures = new Digits();
        pattern = new Pattern();
    }

    public void set(int register, long low, int high, int scale, boolean negative) throws IllegalArgumentException {
        if (!isRegister(register) || !isScale(scale)) {
            throw new IllegalArgumentException("register must be 0 .. 5 and scale 0 .. 28");
        }
        registers[register].take(low, high, scale, negative);
    }

    public long low(int register) {
        return isRegister(register) ? registers[register].lowBits : 0L;
    }

    public int high(int register) {
        return isRegister(register) ? registers[register].highBits : 0;
    }

    public int scale(int register) {
        return isRegister(register) ? registers[register].scale : -1;
    }

    public boolean negative(int register) {
        return isRegister(register) && registers[register].negative;
    }

    public void compute(int operation, int to, int a, int b) throws IllegalArgumentException, ArithmeticException {
        if (!isOrder(operation, to, a, b)) {
            throw new IllegalArgumentException("operation must be 0 .. 4 and registers 0 .. 5");
        }
        if (!carryOut(operation, registers[a], registers[b])) {
            throw new ArithmeticException("division by 0, or too large a result");
        }
        left.storeIn(registers[to]);
    }

    public boolean attempt(int operation, int to, int a, int b) {
        if (!isOrder(operation, to, a, b) || !carryOut(operation, registers[a], registers[b])) {
            return false;
        }
        left.storeIn(registers[to]);
        return true;
    }

    public void round(int to, int a, int digits, int mode) throws IllegalArgumentException {
        if (!isRegister(to) || !isRegister(a) || !isScale(digits) || !isMode(mode)) {
            throw new IllegalArgumentException("registers must be 0 .. 5, digits 0 .. 28 and mode 0 .. 4");
        }
        left.load(registers[a]);
        left.shortenTo(digits, mode);
        left.storeIn(registers[to]);
    }

    public void trim(int to, int a) throws IllegalArgumentException {
        if (!isRegister(to) || !isRegister(a)) {
            throw new IllegalArgumentException("registers must be 0 .. 5");
        }
        left.load(registers[a]);
        left.dropZeros();
        left.storeIn(registers[to]);
    }

    public int compare(int a, int b) throws IllegalArgumentException {
        if (!isRegister(a) || !isRegister(b)) {
            throw new IllegalArgumentException("registers must be 0 .. 5");
        }
        loadAlike(registers[a], registers[b]);
        return left.against(right);
    }

    public boolean type(char c) {
        return c >= 32 && c <= 126 && text.put(c);
    }

    public void clear() {
        text.empty();
    }

    public void parse(int register) throws IllegalArgumentException, IllegalStateException, ArithmeticException {
        if (!isRegister(register)) {
            throw new IllegalArgumentException("register must be 0 .. 5");
        }
        if (!left.read(text)) {
            throw new IllegalStateException("the text is no number");
        }
        if (!left.place()) {
            throw new ArithmeticException("too large a number");
        }
        left.storeIn(registers[register]);
    }

    public int show(int register) throws IllegalArgumentException {
        if (!isRegister(register)) {
            throw new IllegalArgumentException("register must be 0 .. 5");
        }
        left.load(registers[register]);
        writePlainly();
        return output.length;
    }

    public int format(int register) throws IllegalArgumentException, IllegalStateException {
        if (!isRegister(register)) {
            throw new IllegalArgumentException("register must be 0 .. 5");
        }
        if (!pattern.read(text)) {
            throw new IllegalStateException("the text is no pattern");
        }
        left.load(registers[register]);
        writeByPattern();
        return output.length;
    }

    public int at(int i) {
        return output.codeAt(i);
    }

    public boolean reuse() {
        if (output.length > TEXT_ROOM) {
            return false;
        }
        text.empty();
        for (int i = 0; i < output.length; i++) {
            text.put((char) output.codeAt(i));
        }
        return true;
    }

    private static boolean isRegister(int register) {
        return register >= 0 && register < REGISTERS;
    }

    private static boolean isScale(int scale) {
        return scale >= 0 && scale <= GREATEST_SCALE;
    }

    private static boolean isMode(int mode) {
        return mode >= HALF_TO_EVEN && mode <= UPWARDS;
    }

    private static boolean isOrder(int operation, int to, int a, int b) {
        return operation >= SUM && operation <= REMAINDER && isRegister(to) && isRegister(a) && isRegister(b);
    }

    /** Leaves the operation's result in left; false when there is none. */
    private boolean carryOut(int operation, Register a, Register b) {
        switch (operation) {
            case SUM:
                return addUp(a, b, false);
            case DIFFERENCE:
                return addUp(a, b, true);
            case PRODUCT:
                return multiply(a, b);
            case QUOTIENT:
                return !b.isZero() && divide(a, b);
            case REMAINDER:
                return !b.isZero() && divideForRest(a, b);
            default:
                return false;
        }
    }

    private boolean addUp(Register a, Register b, boolean lessB) {
        loadAlike(a, b);
        if (lessB) {
            right.negative = !right.negative;
        }
        left.add(right);
        return left.place();
    }

    private boolean multiply(Register a, Register b) {
        factor.takeBits(a.lowBits, a.highBits);
        right.load(b);
        left.begin(a.scale + b.scale, a.negative != b.negative);
        left.whole.becomeProduct(factor, right.whole);
        return left.place();
    }

    private boolean divide(Register a, Register b) {
        right.load(b);
        divideCoefficient(a);
        int scale = a.scale - b.scale;
        // A digit more is worth it only while the quotient is not yet exact and has room for it.
        while (scale < GREATEST_SCALE && (scale < 0 || division.isUnfinished())) {
            division.bringDown(0);
            scale++;
        }
        left.begin(scale, a.negative != b.negative);
        left.takeQuotient(division);
        return left.place();
    }

    private boolean divideForRest(Register a, Register b) {
        right.load(b);
        right.lengthenTo(a.scale);
        divideCoefficient(a);
        for (int scale = a.scale; scale < b.scale; scale++) {
            division.bringDown(0);
        }
        left.begin(Math.max(a.scale, b.scale), a.negative);
        left.whole.copy(division.rest);
        return left.place();
    }

    /** Divides the coefficient of a number by what stands in right. */
    private void divideCoefficient(Register a) {
        left.load(a);
        figures.takeFrom(left.whole);
        division.begin(right.whole);
        division.bringDownAll(figures);
    }

    /** Loads two numbers into left and right, both with the greater scale. */
    private void loadAlike(Register a, Register b) {
        left.load(a);
        right.load(b);
        left.lengthenTo(b.scale);
        right.lengthenTo(a.scale);
    }

    private void writePlainly() {
        output.empty();
        writeSign();
        int scale = left.scale;
        figures.takeFrom(left.whole);
        writeBeforePoint(scale, Math.max(figures.count - scale, 1), false);
        writeBehindPoint(scale, scale);
    }

    private void writeByPattern() {
        if (pattern.percent) {
            left.timesHundred();
        }
        left.shortenTo(pattern.backPlaces, HALF_AWAY);
        output.empty();
        writeSign();
        int scale = left.scale;
        figures.takeFrom(left.whole);
        writeBeforePoint(scale, Math.max(figures.count - scale, pattern.leastBefore), pattern.grouped);
        writeBehindPoint(scale, placesBehind(scale));
        if (pattern.percent) {
            output.put('%');
        }
    }

    private void writeSign() {
        if (left.negative && !left.whole.isZero()) {
            output.put('-');
        }
    }

    private void writeBeforePoint(int scale, int places, boolean grouped) {
        for (int i = places - 1; i >= 0; i--) {
            output.put(figures.mark(scale + i));
            if (grouped && i > 0 && i % 3 == 0) {
                output.put(',');
            }
        }
    }

    private void writeBehindPoint(int scale, int places) {
        if (places > 0) {
            output.put('.');
        }
        for (int i = 1; i <= places; i++) {
            output.put(figures.mark(scale - i));
        }
    }

    /** How many digits behind the point the pattern leaves of those that are there. */
    private int placesBehind(int scale) {
        int places = pattern.backPlaces;
        while (places > pattern.leastBehind && figures.mark(scale - places) == '0') {
            places--;
        }
        return places;
    }

    /** What a register holds. */
    private static final class Register {
        private long lowBits;
        private int highBits;
        private int scale;
        private boolean negative;

        void take(long newLowBits, int newHighBits, int newScale, boolean below) {
            lowBits = newLowBits;
            highBits = newHighBits;
            scale = newScale;
            negative = below && !isZero();
        }

        boolean isZero() {
            return lowBits == 0 && highBits == 0;
        }
    }

    /** A whole number 0 .. 2^192 - 1 (every exact numerator stays below that), its lowest word first. */
    private static final class Whole {
        private static final int WORDS = 6;
        private static final int COEFFICIENT_WORDS = 3;
        private static final int WORD_BITS = 32;
        private static final long WORD_MASK = 0xFFFFFFFFL;

        private final long[] words = new long[WORDS];

        void becomeZero() {
            for (int i = 0; i < WORDS; i++) {
                words[i] = 0;
            }
        }

        void copy(Whole other) {
            for (int i = 0; i < WORDS; i++) {
                words[i] = other.words[i];
            }
        }

        void takeBits(long lowBits, int highBits) {
            becomeZero();
            words[0] = lowBits & WORD_MASK;
            words[1] = lowBits >>> WORD_BITS;
            words[2] = highBits & WORD_MASK;
        }

        long lowBits() {
            return words[0] | words[1] << WORD_BITS;
        }

        int highBits() {
            return (int) words[2];
        }

        boolean isZero() {
            return isCoefficient() && words[0] == 0 && words[1] == 0 && words[2] == 0;
        }

        boolean isOdd() {
            return (words[0] & 1) == 1;
        }

        boolean isCoefficient() {
            return words[3] == 0 && words[4] == 0 && words[5] == 0;
        }

        boolean isGreatestCoefficient() {
            return isCoefficient() && words[0] == WORD_MASK && words[1] == WORD_MASK && words[2] == WORD_MASK;
        }

        /** -1, 0 or 1 when this is less than, the same as or greater than the other. */
        int against(Whole other) {
            for (int i = WORDS - 1; i >= 0; i--) {
                if (words[i] != other.words[i]) {
                    return words[i] < other.words[i] ? -1 : 1;
                }
            }
            return 0;
        }

        void add(Whole other) {
            long carry = 0;
            for (int i = 0; i < WORDS; i++) {
                long sum = words[i] + other.words[i] + carry;
                words[i] = sum & WORD_MASK;
                carry = sum >>> WORD_BITS;
            }
        }

        void addOne() {
            long carry = 1;
            for (int i = 0; i < WORDS; i++) {
                long sum = words[i] + carry;
                words[i] = sum & WORD_MASK;
                carry = sum >>> WORD_BITS;
            }
        }

        /** The greater may not be less than the lesser; either may be this one. */
        void becomeDifference(Whole greater, Whole lesser) {
            long borrow = 0;
            for (int i = 0; i < WORDS; i++) {
                long rest = greater.words[i] - lesser.words[i] - borrow;
                words[i] = rest & WORD_MASK;
                borrow = rest < 0 ? 1 : 0;
            }
        }

        /** Both factors are coefficients, and neither is this one. */
        void becomeProduct(Whole a, Whole b) {
            becomeZero();
            for (int i = 0; i < COEFFICIENT_WORDS; i++) {
                long carry = 0;
                for (int j = 0; j < COEFFICIENT_WORDS; j++) {
                    // Just fits into 64 bits without sign, which is how the mask and the shift take it.
                    long sum = a.words[i] * b.words[j] + words[i + j] + carry;
                    words[i + j] = sum & WORD_MASK;
                    carry = sum >>> WORD_BITS;
                }
                words[i + COEFFICIENT_WORDS] = carry;
            }
        }

        void appendDigit(int digit) {
            long carry = digit;
            for (int i = 0; i < WORDS; i++) {
                long sum = words[i] * 10 + carry;
                words[i] = sum & WORD_MASK;
                carry = sum >>> WORD_BITS;
            }
        }

        /** Takes the last decimal digit away and answers it. */
        int dropDigit() {
            long rest = 0;
            for (int i = WORDS - 1; i >= 0; i--) {
                long part = rest << WORD_BITS | words[i];
                words[i] = part / 10;
                rest = part % 10;
            }
            return (int) rest;
        }
    }

    /** A number in the making: whole / 10^scale, and what has been cut off behind its last digit. */
    private static final class Draft {
        private static final int NOTHING = 0;
        private static final int BELOW_HALF = 1;
        private static final int HALF = 2;
        private static final int ABOVE_HALF = 3;

        private final Whole whole = new Whole();
        private int scale;
        private boolean negative;
        // How what was cut off stands to half of the last digit's unit: all that a rounding asks for.
        private int cut;

        void begin(int newScale, boolean below) {
            whole.becomeZero();
            scale = newScale;
            negative = below;
            cut = NOTHING;
        }

        void load(Register register) {
            begin(register.scale, register.negative);
            whole.takeBits(register.lowBits, register.highBits);
        }

        void storeIn(Register register) {
            register.take(whole.lowBits(), whole.highBits(), scale, negative);
        }

        /** Reads a number from a text; false when the text is none. */
        boolean read(Line text) {
            boolean minus = text.codeAt(0) == '-';
            begin(0, minus);
            boolean pointSeen = false;
            boolean digitSeen = false;
            for (int i = minus ? 1 : 0; i < text.length; i++) {
                int code = text.codeAt(i);
                if (code >= '0' && code <= '9') {
                    whole.appendDigit(code - '0');
                    scale += pointSeen ? 1 : 0;
                    digitSeen = true;
                } else if (code == '.' && !pointSeen) {
                    pointSeen = true;
                } else {
                    return false;
                }
            }
            return digitSeen;
        }

        void lengthenTo(int newScale) {
            while (scale < newScale) {
                whole.appendDigit(0);
                scale++;
            }
        }

        void timesHundred() {
            whole.appendDigit(0);
            whole.appendDigit(0);
        }

        /** -1, 0 or 1 when this is less than, the same as or greater than the other, which has the same scale. */
        int against(Draft other) {
            if (negative != other.negative) {
                return negative ? -1 : 1;
            }
            return negative ? other.whole.against(whole) : whole.against(other.whole);
        }

        /** The other has the same scale. */
        void add(Draft other) {
            if (negative == other.negative) {
                whole.add(other.whole);
            } else if (whole.against(other.whole) >= 0) {
                whole.becomeDifference(whole, other.whole);
            } else {
                whole.becomeDifference(other.whole, whole);
                negative = other.negative;
            }
        }

        /** Places the number at its scale, cutting digits off it where it must; false when it is too large. */
        boolean place() {
            while (scale > 0 && (scale > GREATEST_SCALE || !fits())) {
                cutDigit();
                scale--;
            }
            if (!fits()) {
                return false;
            }
            settle(HALF_TO_EVEN);
            return true;
        }

        void shortenTo(int newScale, int mode) {
            while (scale > newScale) {
                cutDigit();
                scale--;
            }
            settle(mode);
        }

        void dropZeros() {
            while (scale > 0) {
                int digit = whole.dropDigit();
                if (digit != 0) {
                    whole.appendDigit(digit);
                    return;
                }
                scale--;
            }
        }

        /** Takes the quotient of a division; its rest, which is spent by that, counts as cut off. */
        void takeQuotient(LongDivision division) {
            whole.copy(division.quotient);
            if (!division.rest.isZero()) {
                division.rest.add(division.rest);
                cut = HALF + division.rest.against(division.divisor);
            }
        }

        /** Leaves the scale to the loops that call it, so that each shows its own end. */
        private void cutDigit() {
            int digit = whole.dropDigit();
            if (digit > 5 || digit == 5 && cut != NOTHING) {
                cut = ABOVE_HALF;
            } else if (digit == 5) {
                cut = HALF;
            } else if (digit > 0 || cut != NOTHING) {
                cut = BELOW_HALF;
            }
        }

        /** Whether the whole number, once it is rounded to the nearest, is a coefficient. */
        private boolean fits() {
            return whole.isCoefficient() && !(goesAway(HALF_TO_EVEN) && whole.isGreatestCoefficient());
        }

        private void settle(int mode) {
            if (goesAway(mode)) {
                whole.addOne();
            }
        }

        /** Whether a rounding of this mode goes away from 0. */
        private boolean goesAway(int mode) {
            switch (mode) {
                case HALF_TO_EVEN:
                    return cut == ABOVE_HALF || cut == HALF && whole.isOdd();
                case HALF_AWAY:
                    return cut >= HALF;
                case DOWNWARDS:
                    return cut != NOTHING && negative;
                case UPWARDS:
                    return cut != NOTHING && !negative;
                case TOWARDS_ZERO:
                default:
                    return false;
            }
        }
    }

    /** Division as at school: the dividend's digits are brought down one by one, the highest first. */
    private static final class LongDivision {
        private final Whole divisor = new Whole();
        private final Whole quotient = new Whole();
        private final Whole rest = new Whole();

        void begin(Whole by) {
            divisor.copy(by);
            quotient.becomeZero();
            rest.becomeZero();
        }

        void bringDownAll(Digits dividend) {
            for (int i = dividend.count - 1; i >= 0; i--) {
                bringDown(dividend.digit(i));
            }
        }

        void bringDown(int digit) {
            rest.appendDigit(digit);
            int times = 0;
            while (times < 9 && rest.against(divisor) >= 0) {
                rest.becomeDifference(rest, divisor);
                times++;
            }
            quotient.appendDigit(times);
        }

        boolean isUnfinished() {
            return !rest.isZero() && quotient.isCoefficient();
        }
    }

    /** The decimal digits of a whole number, the lowest first, without zeros at its front: none of 0. */
    private static final class Digits {
        // A coefficient times 100 has no more than 31.
        private static final int ROOM = 31;

        private final byte[] row = new byte[ROOM];
        private int count;

        /** The whole number is used up. */
        void takeFrom(Whole whole) {
            count = 0;
            while (count < ROOM && !whole.isZero()) {
                row[count] = (byte) whole.dropDigit();
                count++;
            }
        }

        /** 0 where the number has no digit. */
        int digit(int place) {
            return place >= 0 && place < count ? row[place] : 0;
        }

        char mark(int place) {
            return (char) ('0' + digit(place));
        }
    }

    /** A row of characters with a bound. */
    private static final class Line {
        private final char[] row;
        private int length;

        Line(int room) {
            row = new char[room];
        }

        void empty() {
            length = 0;
        }

        boolean put(char c) {
            if (length >= row.length) {
                return false;
            }
            row[length] = c;
            length++;
            return true;
        }

        /** -1 where there is no character. */
        int codeAt(int i) {
            return i >= 0 && i < length ? row[i] : -1;
        }
    }

    /** What a pattern asks for. */
    private static final class Pattern {
        private boolean frontHasPlace;
        private int leastBefore;
        private boolean grouped;
        private int backPlaces;
        private int leastBehind;
        private boolean percent;

        /** False when the text is no pattern. */
        boolean read(Line text) {
            int frontEnd = readFront(text);
            int backEnd = readBack(text, frontEnd);
            percent = text.codeAt(backEnd) == '%';
            int end = percent ? backEnd + 1 : backEnd;
            return end == text.length && (frontHasPlace || backPlaces > 0);
        }

        /** Answers where the front ends. */
        private int readFront(Line text) {
            frontHasPlace = false;
            leastBefore = 0;
            grouped = false;
            boolean commaBehindPlace = false;
            int i = 0;
            while (i < text.length && isFrontMark(text.codeAt(i))) {
                int code = text.codeAt(i);
                if (code == ',') {
                    commaBehindPlace = frontHasPlace;
                } else {
                    leastBefore += code == '0' || leastBefore > 0 ? 1 : 0;
                    grouped = commaBehindPlace;
                    frontHasPlace = true;
                }
                i++;
            }
            return i;
        }

        /** Answers where the back ends: where the front does, if there is no point. */
        private int readBack(Line text, int frontEnd) {
            backPlaces = 0;
            leastBehind = 0;
            if (text.codeAt(frontEnd) != '.') {
                return frontEnd;
            }
            int i = frontEnd + 1;
            while (i < text.length && isPlace(text.codeAt(i))) {
                backPlaces++;
                if (text.codeAt(i) == '0') {
                    leastBehind = backPlaces;
                }
                i++;
            }
            return i;
        }

        private static boolean isFrontMark(int code) {
            return isPlace(code) || code == ',';
        }

        private static boolean isPlace(int code) {
            return code == '0' || code == '#';
        }
    }
}
