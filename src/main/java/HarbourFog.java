import java.util.Arrays;
import java.util.NoSuchElementException;

/** A harbour's fog, its owners, walkers, watches, ships and auctions, as ../shared/DOC.md tells them. */
public final class HarbourFog {
  public static final int NONE = -1;

  private static final int STEPS = 40;
  /** A CELL is X and 10 Y inside, too, so a row of FOG has ten places for each of the nine rows. */
  private static final int CELLS = 90;
  private static final int FULL = 99;
  private static final int MOST_TAPE = 600;
  private static final int MOST_RULE = 200;
  private static final int MOST_IMAGES = 3;
  private static final int MOST_LAMPS = 6;
  private static final int MOST_LOTS = 6;
  private static final int MOST_BIDS = 12;
  private static final int MOST_GAUGES = 8;
  private static final int MOST_SEEDS = 40;
  private static final int MOST_LATER = 12;

  private Harbour harbour;
  private Harbour spare;
  private Rule ruling;
  private Rule spareRuling;
  private final PortReader portReader;
  private final RuleReader ruleReader;
  private final int[] tape;
  private int taped;
  private int faultPlace;
  /** The FOG as it is told. */
  private final Run base;
  /** The FOG as it would be: by a SEED, with a LAMP more, behind a duel. */
  private final Run trial;
  private final Eyes eyes;
  private final Auction auction;
  private final Duels duels;
  private final Table bids;
  private final Table gauges;
  private final Image[] images;
  private int imaged;
  private final int[] refused;
  /** By how many SEEDS so many yards are the least to BUY. */
  private final int[] tally;

  public HarbourFog() {
    harbour = new Harbour();
    spare = new Harbour();
    ruling = new Rule();
    spareRuling = new Rule();
    tape = new int[MOST_TAPE];
    portReader = new PortReader(tape);
    ruleReader = new RuleReader(tape);
    faultPlace = NONE;
    base = new Run(harbour);
    trial = new Run(harbour);
    eyes = new Eyes();
    auction = new Auction();
    duels = new Duels();
    bids = new Table(MOST_BIDS);
    gauges = new Table(MOST_GAUGES);
    images = new Image[MOST_IMAGES];
    for (int i = 0; i < MOST_IMAGES; i++) {
      images[i] = new Image();
    }
    refused = new int[3];
    tally = new int[FULL + 1];
  }

  // ---- the texts ----

  public int feed(int a, int b, int c, int d, int e) {
    if (taped + 20 > MOST_TAPE) {
      return NONE;
    }
    tapeNumber(a);
    tapeNumber(b);
    tapeNumber(c);
    tapeNumber(d);
    tapeNumber(e);
    return taped;
  }

  private void tapeNumber(int number) {
    for (int shift = 24; shift >= 0; shift -= 8) {
      if (taped < MOST_TAPE) {
        tape[taped] = (number >>> shift) & 255;
        taped++;
      }
    }
  }

  public int port(int n) throws IllegalArgumentException {
    needRange(n, 0, taped);
    taped = 0;
    portReader.begin(n);
    portReader.readInto(spare);
    faultPlace = portReader.place;
    if (!portReader.fine()) {
      return portReader.kind - 10;
    }
    Harbour old = harbour;
    harbour = spare;
    spare = old;
    ruling.reset();
    bids.many = 0;
    gauges.many = 0;
    imaged = 0;
    beginAgain();
    return harbour.lots.many;
  }

  public int fault() {
    return faultPlace;
  }

  public int told(int what) throws IllegalArgumentException {
    needRange(what, 0, 9);
    switch (what) {
      case 0: return harbour.across;
      case 1: return harbour.down;
      case 2: return harbour.lamps.many;
      case 3: return harbour.lots.many;
      case 4: return harbour.walks.many;
      case 5: return harbour.watches.many;
      case 6: return harbour.ships.many;
      case 7: return harbour.sight;
      case 8: return bids.many;
      default: return gauges.many;
    }
  }

  // ---- FOG ----

  public int fog(int x, int y, int step) throws IndexOutOfBoundsException, IllegalArgumentException {
    needCell(x, y);
    needRange(step, NONE, STEPS - 1);
    base.upTo(step);
    return base.fogOn(x + 10 * y, step);
  }

  public int sums(int step, int what) throws IllegalArgumentException {
    needRange(step, NONE, STEPS - 1);
    needRange(what, 0, 3);
    base.upTo(step);
    return base.sumOf(step, what);
  }

  public int set(int x, int y, int yards) throws IndexOutOfBoundsException, IllegalArgumentException {
    needCell(x, y);
    needRange(yards, 0, FULL);
    int cell = x + 10 * y;
    int was = harbour.first[cell];
    harbour.first[cell] = yards;
    beginAgain();
    return was;
  }

  public int led(int lamp, int step) throws NoSuchElementException, IllegalArgumentException {
    needRow(harbour.lamps, lamp);
    needStep(step);
    base.upTo(step);
    return base.ledTo(lamp, step);
  }

  public int whose(int x, int y) throws IndexOutOfBoundsException {
    needCell(x, y);
    base.upTo(STEPS - 1);
    int most = 0;
    int lamp = NONE;
    for (int i = 0; i < harbour.lamps.many; i++) {
      int burnt = base.burntOn(i, x + 10 * y);
      if (burnt > most) {
        most = burnt;
        lamp = i;
      }
    }
    return lamp;
  }

  public int calm(int step) throws IllegalArgumentException {
    needStep(step);
    for (int s = step; s < STEPS; s++) {
      base.upTo(s);
      if (base.movedIn(s) == 0) {
        return s;
      }
    }
    return NONE;
  }

  public int thick(int step) throws IllegalArgumentException {
    needRange(step, NONE, STEPS - 1);
    base.upTo(step);
    int most = -1;
    int cell = 0;
    for (int y = 0; y < harbour.down; y++) {
      for (int x = 0; x < harbour.across; x++) {
        int stands = base.fogOn(x + 10 * y, step);
        if (stands > most) {
          most = stands;
          cell = x + 10 * y;
        }
      }
    }
    return cell;
  }

  public int doubt(int x, int y, int step, int seed, int q)
      throws IndexOutOfBoundsException, IllegalArgumentException {
    needCell(x, y);
    needStep(step);
    needRange(q, 0, 8);
    trial.begin(harbour);
    trial.inDoubt(seed, q);
    trial.upTo(step);
    return trial.fogOn(x + 10 * y, step);
  }

  // ---- WALKERS and WATCHES ----

  public int line(int x, int y, int a, int b, int step)
      throws IndexOutOfBoundsException, IllegalArgumentException {
    needCell(x, y);
    needCell(a, b);
    needStep(step);
    base.upTo(step);
    return Eyes.fogBetween(base, x + 10 * y, a + 10 * b, step);
  }

  public int where(int walker, int step) throws NoSuchElementException, IllegalArgumentException {
    needRow(harbour.walks, walker);
    needStep(step);
    return harbour.cellOf(walker, step);
  }

  public boolean sees(int walker, int other, int step)
      throws NoSuchElementException, IllegalArgumentException {
    needTwo(harbour.walks, walker, other);
    needStep(step);
    base.upTo(step);
    return Eyes.seeEachOther(base, walker, other, step);
  }

  public int often(int walker, int other) throws NoSuchElementException, IllegalArgumentException {
    needTwo(harbour.walks, walker, other);
    base.upTo(STEPS - 1);
    int times = 0;
    for (int s = 0; s < STEPS; s++) {
      if (Eyes.seeEachOther(base, walker, other, s)) {
        times++;
      }
    }
    return times;
  }

  public int seen(int walker, int step) throws NoSuchElementException, IllegalArgumentException {
    needRow(harbour.walks, walker);
    needStep(step);
    base.upTo(step);
    return Eyes.watchesOn(base, harbour.cellOf(walker, step), step);
  }

  public int could(int x, int y, int step) throws IndexOutOfBoundsException, IllegalArgumentException {
    needCell(x, y);
    needStep(step);
    base.upTo(step);
    return Eyes.walkersOn(base, x + 10 * y, step);
  }

  public int witnesses(int x, int y, int from, int to, boolean all)
      throws IndexOutOfBoundsException, IllegalArgumentException {
    needCell(x, y);
    needStep(from);
    needRange(to, from, STEPS - 1);
    base.upTo(to);
    int some = 0;
    int each = -1;
    for (int s = from; s <= to; s++) {
      int bits = Eyes.walkersOn(base, x + 10 * y, s);
      some |= bits;
      each &= bits;
    }
    return all ? each : some;
  }

  public int hid(int walker) throws NoSuchElementException {
    needRow(harbour.walks, walker);
    base.upTo(STEPS - 1);
    int steps = 0;
    for (int s = 0; s < STEPS; s++) {
      if (Eyes.isHid(base, walker, s)) {
        steps++;
      }
    }
    return steps;
  }

  public int guards() {
    base.upTo(STEPS - 1);
    int sets = 1 << harbour.watches.many;
    int best = sets - 1;
    for (int set = 0; set < sets; set++) {
      if (Integer.bitCount(set) < Integer.bitCount(best) && guardsAll(set)) {
        best = set;
      }
    }
    return best;
  }

  private boolean guardsAll(int watches) {
    for (int w = 0; w < harbour.walks.many; w++) {
      int eyesOnHim = Eyes.watchesEver(base, w);
      if (eyesOnHim != 0 && (eyesOnHim & watches) == 0) {
        return false;
      }
    }
    return true;
  }

  public int meet(int walker, int other) throws NoSuchElementException, IllegalArgumentException {
    needTwo(harbour.walks, walker, other);
    for (int s = 0; s < STEPS; s++) {
      int cell = harbour.cellOf(walker, s);
      if (cell != NONE && cell == harbour.cellOf(other, s)) {
        return s;
      }
    }
    return NONE;
  }

  public int buy(int walker, int what) throws NoSuchElementException, IllegalArgumentException {
    needRow(harbour.walks, walker);
    needRange(what, 0, 1);
    base.upTo(STEPS - 1);
    int least = Eyes.leastFor(base, walker, harbour.comes(walker));
    return what == 0 ? least : least * floorsOn(walker);
  }

  /** What one yard about him in each STEP costs a WALKER. */
  private int floorsOn(int walker) {
    int together = 0;
    for (int s = 0; s < STEPS; s++) {
      int cell = harbour.cellOf(walker, s);
      if (cell != NONE) {
        together += harbour.floorOf(harbour.lotOn(cell));
      }
    }
    return together;
  }

  public int way(int from, int to, int step, int later)
      throws IndexOutOfBoundsException, IllegalArgumentException {
    needCode(from);
    needCode(to);
    needStep(step);
    needRange(later, 0, Math.min(MOST_LATER, STEPS - 1 - step));
    base.upTo(step + later);
    return eyes.cheapest(base, from, to, step, later);
  }

  public int start(int walker, int what) throws NoSuchElementException, IllegalArgumentException {
    needRow(harbour.walks, walker);
    needRange(what, 0, 1);
    base.upTo(STEPS - 1);
    int best = NONE;
    int least = 0;
    for (int s = 0; s + harbour.movesOf(walker) < STEPS; s++) {
      int needs = Eyes.leastFor(base, walker, s);
      if (best == NONE || needs < least) {
        best = s;
        least = needs;
      }
    }
    return what == 0 ? best : least;
  }

  public int span(int walker, int seed, int q, int many, int what)
      throws NoSuchElementException, IllegalArgumentException {
    needRow(harbour.walks, walker);
    needSeeds(q, many);
    needRange(what, 0, 1);
    tallySeeds(walker, seed, q, many);
    return what == 0 ? tallied(1) : tallied(many);
  }

  public int enough(int walker, int yards, int seed, int q, int many)
      throws NoSuchElementException, IllegalArgumentException {
    needRow(harbour.walks, walker);
    needRange(yards, 0, FULL);
    needSeeds(q, many);
    tallySeeds(walker, seed, q, many);
    int seeds = 0;
    for (int n = 0; n <= yards && n <= FULL; n++) {
      seeds += tally[n];
    }
    return seeds;
  }

  public int sure(int walker, int k, int seed, int q, int many)
      throws NoSuchElementException, IllegalArgumentException {
    needRow(harbour.walks, walker);
    needSeeds(q, many);
    needRange(k, 1, many);
    tallySeeds(walker, seed, q, many);
    return tallied(k);
  }

  private void tallySeeds(int walker, int seed, int q, int many) {
    Arrays.fill(tally, 0);
    int last = harbour.leaves(walker);
    for (int i = 0; i < many; i++) {
      trial.begin(harbour);
      trial.inDoubt(seed + i, q);
      trial.upTo(last);
      int needs = Eyes.leastFor(trial, walker, harbour.comes(walker));
      if (needs >= 0 && needs <= FULL) {
        tally[needs]++;
      }
    }
  }

  /** The least yards that are enough by so many of the SEEDS. */
  private int tallied(int seeds) {
    int together = 0;
    for (int n = 0; n < FULL; n++) {
      together += tally[n];
      if (together >= seeds) {
        return n;
      }
    }
    return FULL;
  }

  // ---- LOTS ----

  public int lot(int lot, int what) throws NoSuchElementException, IllegalArgumentException {
    needRow(harbour.lots, lot);
    needRange(what, 0, 2);
    return harbour.lots.at(lot, what);
  }

  public int yards(int lot, int step) throws NoSuchElementException, IllegalArgumentException {
    needRow(harbour.lots, lot);
    needRange(step, NONE, STEPS - 1);
    base.upTo(step);
    return base.inLot(lot, step);
  }

  public int leaks(int lot, int other, int what) throws NoSuchElementException, IllegalArgumentException {
    needTwo(harbour.lots, lot, other);
    needRange(what, 0, 1);
    base.upTo(STEPS - 1);
    return what == 0 ? base.leaked(lot, other) : base.damages(lot, other);
  }

  public int net(int lot) throws NoSuchElementException {
    needRow(harbour.lots, lot);
    base.upTo(STEPS - 1);
    int owed = 0;
    for (int other = 0; other < harbour.lots.many; other++) {
      if (other != lot) {
        owed += base.damages(other, lot) - base.damages(lot, other);
      }
    }
    return owed;
  }

  public int worthless(int lot, int much) throws NoSuchElementException, IllegalArgumentException {
    needRow(harbour.lots, lot);
    needRange(much, 1, 999);
    base.upTo(STEPS - 1);
    for (int s = STEPS - 1; s >= 0; s--) {
      if (base.inLot(lot, s) >= much) {
        return s + 1;
      }
    }
    return 0;
  }

  // ---- BIDS ----

  public int bid(int lot, int yards, int price) throws NoSuchElementException, IllegalArgumentException {
    needRow(harbour.lots, lot);
    needRange(yards, 1, 999);
    needRange(price, 1, 99);
    if (bids.full()) {
      return NONE;
    }
    bids.add(lot, yards, price, 0);
    return bids.many;
  }

  public int gets(int i, int step, int what) throws IllegalArgumentException {
    needStep(step);
    needRange(what, 0, 2);
    if (!bids.has(i)) {
      return NONE;
    }
    int lot = bids.at(i, Auction.LOT);
    base.upTo(step);
    auction.sell(bids, lot, base.inLot(lot, step), harbour.floorOf(lot));
    return what == 0 ? auction.got(i) : auction.got(i) * auction.priceOf(bids, i, what - 1);
  }

  public int sold(int lot, int step, int way) throws NoSuchElementException, IllegalArgumentException {
    needRow(harbour.lots, lot);
    needStep(step);
    needRange(way, 0, 1);
    return takings(lot, step, way, harbour.floorOf(lot));
  }

  private int takings(int lot, int step, int way, int floor) {
    base.upTo(step);
    auction.sell(bids, lot, base.inLot(lot, step), floor);
    return auction.takings(bids, way);
  }

  public int when(int lot, int way) throws NoSuchElementException, IllegalArgumentException {
    needRow(harbour.lots, lot);
    needRange(way, 0, 1);
    int most = 0;
    int step = NONE;
    for (int s = 0; s < STEPS; s++) {
      int brought = takings(lot, s, way, harbour.floorOf(lot));
      if (brought > most) {
        most = brought;
        step = s;
      }
    }
    return step;
  }

  public int asked(int lot, int step, int way, int what)
      throws NoSuchElementException, IllegalArgumentException {
    needRow(harbour.lots, lot);
    needStep(step);
    needRange(way, 0, 1);
    needRange(what, 0, 1);
    int most = -1;
    int floor = 0;
    for (int f = 0; f <= 9; f++) {
      int brought = takings(lot, step, way, f);
      if (brought > most) {
        most = brought;
        floor = f;
      }
    }
    return what == 0 ? floor : most;
  }

  public int clock(int lot, int step, int what) throws NoSuchElementException, IllegalArgumentException {
    needRow(harbour.lots, lot);
    needStep(step);
    needRange(what, 0, 2);
    base.upTo(step);
    int there = base.inLot(lot, step);
    int price = harbour.floorOf(lot);
    int wanted = Auction.wantedFor(bids, lot, price);
    while (wanted > there && price < 100) {
      price++;
      wanted = Auction.wantedFor(bids, lot, price);
    }
    switch (what) {
      case 0: return price;
      case 1: return wanted;
      default: return price * wanted;
    }
  }

  public int rule(int n) throws IllegalArgumentException {
    needRange(n, 0, Math.min(taped, MOST_RULE));
    taped = 0;
    ruleReader.begin(n);
    ruleReader.readInto(spareRuling);
    faultPlace = ruleReader.place;
    if (!ruleReader.fine()) {
      return ruleReader.kind - 10;
    }
    Rule old = ruling;
    ruling = spareRuling;
    spareRuling = old;
    return ruling.parts;
  }

  public int let(int bid, int step, int what) throws NoSuchElementException, IllegalArgumentException {
    needRow(bids, bid);
    needStep(step);
    needRange(what, 0, 1);
    tellAuction(bids.at(bid, Auction.LOT), step);
    auction.look(bids, bid);
    if (what == 1) {
      return auction.standing(ruling);
    }
    return auction.isLetIn(ruling) ? 1 : 0;
  }

  public int ruled(int bid, int step, int what) throws NoSuchElementException, IllegalArgumentException {
    needRow(bids, bid);
    needStep(step);
    needRange(what, 0, 1);
    sellByRule(bids.at(bid, Auction.LOT), step);
    return what == 0 ? auction.got(bid) : auction.paid(bid);
  }

  public int brings(int lot, int step, int what) throws NoSuchElementException, IllegalArgumentException {
    needRow(harbour.lots, lot);
    needStep(step);
    needRange(what, 0, 2);
    sellByRule(lot, step);
    int together = 0;
    for (int i = 0; i < bids.many; i++) {
      int got = auction.got(i);
      together += what == 0 ? auction.paid(i) : what == 1 ? got : got > 0 ? 1 : 0;
    }
    return together;
  }

  private void sellByRule(int lot, int step) {
    tellAuction(lot, step);
    auction.sellByRule(bids, ruling);
  }

  private void tellAuction(int lot, int step) {
    base.upTo(step);
    auction.open(lot, step, base.inLot(lot, step), harbour.floorOf(lot));
    auction.countBids(bids);
  }

  // ---- SHIPS ----

  public int ship(int ship) throws NoSuchElementException {
    needRow(harbour.ships, ship);
    return firstClear(base, ship, STEPS);
  }

  /** The first STEP ahead of one in which a SHIP may come in. */
  private int firstClear(Run run, int ship, int ahead) {
    for (int s = 0; s < ahead && s < STEPS; s++) {
      run.upTo(s);
      if (run.letsIn(ship, s)) {
        return s;
      }
    }
    return NONE;
  }

  public int light(int ship, int burns, int what) throws NoSuchElementException, IllegalArgumentException {
    needRow(harbour.ships, ship);
    needRange(burns, 1, 20);
    needRange(what, 0, 1);
    if (harbour.lamps.full()) {
      return NONE;
    }
    int soonest = STEPS;
    int best = NONE;
    for (int y = 0; y < harbour.down; y++) {
      for (int x = 0; x < harbour.across; x++) {
        trial.begin(harbour);
        trial.withLamp(x + 10 * y, burns);
        int step = firstClear(trial, ship, soonest);
        if (step != NONE) {
          soonest = step;
          best = x + 10 * y;
        }
      }
    }
    return what == 0 || best == NONE ? best : soonest;
  }

  // ---- GAUGES ----

  public int gauge(int x, int y, int step, int yards)
      throws IndexOutOfBoundsException, IllegalArgumentException {
    needCell(x, y);
    needStep(step);
    needRange(yards, 0, FULL);
    if (gauges.full()) {
      return NONE;
    }
    gauges.add(step, x + 10 * y, yards, 0);
    duels.known = false;
    return gauges.many;
  }

  public boolean right() {
    return Duels.areRight(base, gauges);
  }

  public int found(int what) throws IllegalArgumentException {
    needRange(what, 0, 2);
    duels.seek(base, trial, gauges);
    switch (what) {
      case 0: return duels.many;
      case 1: return duels.step;
      default: return duels.cell;
    }
  }

  public int clear() {
    int gone = bids.many + gauges.many;
    bids.many = 0;
    gauges.many = 0;
    duels.known = false;
    return gone;
  }

  // ---- IMAGES and counts ----

  public int image() {
    if (imaged < 0 || imaged >= MOST_IMAGES) {
      return NONE;
    }
    images[imaged].take(harbour, bids, gauges);
    imaged++;
    return imaged;
  }

  public int restore() {
    if (imaged < 1 || imaged > MOST_IMAGES) {
      return NONE;
    }
    imaged--;
    images[imaged].give(harbour, bids, gauges);
    beginAgain();
    return imaged;
  }

  public int status(int what) {
    return what >= 0 && what < 3 ? refused[what] : NONE;
  }

  public int count(int what) {
    switch (what) {
      case 0: return imaged;
      case 1: return taped;
      default: return NONE;
    }
  }

  private void beginAgain() {
    base.begin(harbour);
    duels.known = false;
  }

  // ---- refusals ----

  private void needCell(int x, int y) {
    if (!harbour.has(x, y)) {
      refused[0]++;
      throw new IndexOutOfBoundsException();
    }
  }

  private void needCode(int cell) {
    needCell(cell < 0 ? NONE : cell % 10, cell < 0 ? NONE : cell / 10);
  }

  private void needRow(Table table, int row) {
    if (!table.has(row)) {
      refused[1]++;
      throw new NoSuchElementException();
    }
  }

  private void needTwo(Table table, int row, int other) {
    needRow(table, row);
    needRow(table, other);
    if (row == other) {
      refused[2]++;
      throw new IllegalArgumentException();
    }
  }

  private void needRange(int value, int least, int most) {
    if (value < least || value > most) {
      refused[2]++;
      throw new IllegalArgumentException();
    }
  }

  private void needStep(int step) {
    needRange(step, 0, STEPS - 1);
  }

  private void needSeeds(int q, int many) {
    needRange(q, 0, 8);
    needRange(many, 1, MOST_SEEDS);
  }

  /** Rows of up to four numbers: what is told of one kind, in its order. */
  static final class Table {
    private static final int MOST_ROWS = 12;
    private static final int WIDE = 4;

    final int most;
    final int[] numbers = new int[MOST_ROWS * WIDE];
    int many;

    Table(int most) {
      this.most = Math.min(most, MOST_ROWS);
    }

    boolean full() {
      return many >= most;
    }

    boolean has(int row) {
      return row >= 0 && row < many;
    }

    int at(int row, int column) {
      boolean known = row >= 0 && row < many && column >= 0 && column < WIDE;
      return known ? numbers[row * WIDE + column] : 0;
    }

    void add(int a, int b, int c, int d) {
      if (!full()) {
        int place = many * WIDE;
        numbers[place] = a;
        numbers[place + 1] = b;
        numbers[place + 2] = c;
        numbers[place + 3] = d;
        many++;
      }
    }

    /** The row that counts in a STEP, where the first column tells from which STEP on; NONE: none yet. */
    int latest(int step) {
      int best = NONE;
      for (int i = 0; i < many; i++) {
        int from = at(i, 0);
        if (from <= step && (best == NONE || from >= at(best, 0))) {
          best = i;
        }
      }
      return best;
    }

    void takeFrom(Table other) {
      System.arraycopy(other.numbers, 0, numbers, 0, MOST_ROWS * WIDE);
      many = other.many;
    }
  }

  /** A PORT as it is told, and its FOG at first. */
  static final class Harbour {
    private static final int MOST_WALKS = 4;
    private static final int MOST_MOVES = 12;

    int across;
    int down;
    int sight;
    /** STEP, way (3 I and J), parts. */
    final Table winds = new Table(12);
    /** STEP, yards. */
    final Table thins = new Table(12);
    /** CELL, yards. */
    final Table lamps = new Table(MOST_LAMPS);
    /** STEP, CELL. */
    final Table steamers = new Table(6);
    /** F, D, how many CELLS. */
    final Table lots = new Table(MOST_LOTS);
    /** STEP, how many MOVES. */
    final Table walks = new Table(MOST_WALKS);
    /** CELL. */
    final Table watches = new Table(4);
    /** Column, yards. */
    final Table ships = new Table(4);
    /** Of each WALKER the CELLS on which he is, one a STEP. */
    private final int[] paths = new int[MOST_WALKS * (MOST_MOVES + 1)];
    private final int[] lotOf = new int[CELLS];
    final int[] first = new int[CELLS];

    Harbour() {
      reset();
    }

    void reset() {
      across = 6;
      down = 5;
      sight = 20;
      winds.many = 0;
      thins.many = 0;
      lamps.many = 0;
      steamers.many = 0;
      lots.many = 0;
      walks.many = 0;
      watches.many = 0;
      ships.many = 0;
      Arrays.fill(lotOf, NONE);
      Arrays.fill(first, 0);
    }

    boolean has(int x, int y) {
      return x >= 0 && x < across && y >= 0 && y < down;
    }

    int lotOn(int cell) {
      return cell >= 0 && cell < CELLS ? lotOf[cell] : NONE;
    }

    void giveTo(int lot, int cell) {
      if (cell >= 0 && cell < CELLS) {
        lotOf[cell] = lot;
      }
    }

    int floorOf(int lot) {
      return lots.at(lot, 0);
    }

    /** The CELL on which a WALKER is behind so many MOVES. */
    int pathAt(int walker, int moves) {
      boolean known = walker >= 0 && walker < MOST_WALKS && moves >= 0 && moves <= MOST_MOVES;
      return known ? paths[walker * (MOST_MOVES + 1) + moves] : NONE;
    }

    void putPath(int walker, int moves, int cell) {
      if (walker >= 0 && walker < MOST_WALKS && moves >= 0 && moves <= MOST_MOVES) {
        paths[walker * (MOST_MOVES + 1) + moves] = cell;
      }
    }

    int comes(int walker) {
      return walks.at(walker, 0);
    }

    int movesOf(int walker) {
      return walks.at(walker, 1);
    }

    /** The last STEP in which a WALKER is there. */
    int leaves(int walker) {
      return Math.min(STEPS - 1, comes(walker) + movesOf(walker));
    }

    /** NONE: he is not there. */
    int cellOf(int walker, int step) {
      boolean there = step >= comes(walker) && step <= leaves(walker);
      return there ? pathAt(walker, step - comes(walker)) : NONE;
    }
  }

  /** Reads a text from the left, and keeps its first FAULT: behind it nothing is read any more. */
  abstract static class Reader {
    static final int STRANGE = 1;
    static final int NO_SUCH = 2;
    static final int TOO_MANY = 3;
    static final int TOO_LATE = 4;
    /** What is above this stands for all greater numbers, so that no number of digits wraps. */
    private static final int GREAT = 100000;

    private final int[] text;
    private int length;
    private int at;
    /** The first byte of what was read last. */
    int token;
    /** The FAULT, 0 without. */
    int kind;
    int place;

    Reader(int[] bytes) {
      text = bytes;
    }

    final void begin(int n) {
      length = Math.min(n, text.length);
      at = 0;
      token = 0;
      kind = 0;
      place = NONE;
    }

    final boolean fine() {
      return kind == 0;
    }

    final void wrong(int what, int where) {
      if (kind == 0) {
        kind = what;
        place = where;
      }
    }

    /** The byte at a place; NONE at the end. */
    final int byteAt(int where) {
      return where >= 0 && where < length ? text[where] : NONE;
    }

    /** The next byte that is no blank; NONE at the end. */
    final int peek() {
      while (at < length && text[at] == ' ') {
        at++;
      }
      return at < length ? text[at] : NONE;
    }

    static boolean isDigit(int sign) {
      return sign >= '0' && sign <= '9';
    }

    static boolean isLetter(int sign) {
      return sign >= 'a' && sign <= 'z';
    }

    /** The number that stands next, or the least one behind a FAULT. */
    final int number(int least, int most) {
      if (!fine()) {
        return least;
      }
      int next = peek();
      token = at;
      if (!isDigit(next)) {
        wrong(STRANGE, at);
        return least;
      }
      int value = 0;
      while (at < length && isDigit(byteAt(at))) {
        value = Math.min(GREAT, value * 10 + byteAt(at) - '0');
        at++;
      }
      if (value < least || value > most) {
        wrong(NO_SUCH, token);
        return least;
      }
      return value;
    }

    /** Goes over the WORD that stands next: how many letters. */
    final int word() {
      if (!fine()) {
        return 0;
      }
      int next = peek();
      token = at;
      if (!isLetter(next)) {
        wrong(STRANGE, at);
        return 0;
      }
      while (at < length && isLetter(byteAt(at))) {
        at++;
      }
      return at - token;
    }

    /** Whether the WORD that was read last is this one. */
    final boolean isWord(String name) {
      if (at - token != name.length()) {
        return false;
      }
      for (int i = 0; i < name.length(); i++) {
        if (byteAt(token + i) != name.charAt(i)) {
          return false;
        }
      }
      return true;
    }

    /** Goes over the WORD that stands next, if it is this one. */
    final boolean takesWord(String name) {
      if (!fine() || !isLetter(peek())) {
        return false;
      }
      word();
      if (!isWord(name)) {
        at = token;
        return false;
      }
      return true;
    }

    final boolean takesSign(int sign) {
      if (!fine() || peek() != sign) {
        return false;
      }
      token = at;
      at++;
      return true;
    }

    final void needSign(int sign) {
      if (fine() && !takesSign(sign)) {
        wrong(STRANGE, at);
      }
    }
  }

  static final class PortReader extends Reader {
    private static final int MOST_CLAUSES = 60;
    private static final int PORT = 0;
    private static final int BANK = 1;
    private static final int WIND = 2;
    private static final int THIN = 3;
    private static final int LAMP = 4;
    private static final int STEAMER = 5;
    private static final int LOT = 6;
    private static final int WALK = 7;
    private static final int WATCH = 8;
    private static final int SIGHT = 9;
    private static final int SHIP = 10;

    private Harbour out;
    private int west;
    private int north;
    private int east;
    private int south;

    PortReader(int[] bytes) {
      super(bytes);
    }

    void readInto(Harbour harbour) {
      out = harbour;
      out.reset();
      for (int clauses = 0; clauses < MOST_TAPE && fine() && peek() != NONE; clauses++) {
        readClause(clauses);
      }
    }

    private void readClause(int clauses) {
      word();
      int what = clauseKind();
      if (what == NONE) {
        wrong(STRANGE, token);
      } else if (clauses >= MOST_CLAUSES) {
        wrong(TOO_MANY, token);
      } else if (what == PORT && clauses > 0) {
        wrong(TOO_LATE, token);
      }
      switch (what) {
        case PORT: readPort(); break;
        case BANK: readBank(); break;
        case WIND: readWind(); break;
        case THIN: readThin(); break;
        case LAMP: readLamp(); break;
        case STEAMER: readSteamer(); break;
        case LOT: readLot(); break;
        case WALK: readWalk(); break;
        case WATCH: readWatch(); break;
        case SIGHT: readSight(); break;
        case SHIP: readShip(); break;
        default: break;
      }
      needSign(';');
    }

    private int clauseKind() {
      if (isWord("port")) {
        return PORT;
      }
      if (isWord("fog")) {
        return BANK;
      }
      if (isWord("wind")) {
        return WIND;
      }
      if (isWord("thin")) {
        return THIN;
      }
      if (isWord("lamp")) {
        return LAMP;
      }
      if (isWord("steamer")) {
        return STEAMER;
      }
      if (isWord("lot")) {
        return LOT;
      }
      if (isWord("walk")) {
        return WALK;
      }
      if (isWord("watch")) {
        return WATCH;
      }
      if (isWord("sight")) {
        return SIGHT;
      }
      return isWord("ship") ? SHIP : NONE;
    }

    private void readPort() {
      int across = number(2, 9);
      int down = number(2, 9);
      if (fine()) {
        out.across = across;
        out.down = down;
      }
    }

    private void needRoom(Table table) {
      if (table.full()) {
        wrong(TOO_MANY, token);
      }
    }

    private void addIfFine(Table table, int a, int b, int c) {
      if (fine()) {
        table.add(a, b, c, 0);
      }
    }

    private int readStep() {
      return number(0, STEPS - 1);
    }

    private int readCell() {
      int x = number(0, out.across - 1);
      int y = number(0, out.down - 1);
      return x + 10 * y;
    }

    private void readBlock() {
      west = number(0, out.across - 1);
      north = number(0, out.down - 1);
      east = number(west, out.across - 1);
      south = number(north, out.down - 1);
    }

    private void readBank() {
      readBlock();
      int more = number(1, FULL);
      for (int y = north; y <= south && fine(); y++) {
        for (int x = west; x <= east; x++) {
          int cell = x + 10 * y;
          if (out.has(x, y)) {
            out.first[cell] = Math.min(FULL, out.first[cell] + more);
          }
        }
      }
    }

    private void readWind() {
      needRoom(out.winds);
      int step = readStep();
      int i = number(0, 2);
      int j = number(0, 2);
      int parts = number(0, 8);
      addIfFine(out.winds, step, 3 * i + j, parts);
    }

    private void readThin() {
      needRoom(out.thins);
      int step = readStep();
      int loses = number(0, 9);
      addIfFine(out.thins, step, loses, 0);
    }

    private void readLamp() {
      needRoom(out.lamps);
      int cell = readCell();
      int burns = number(1, 20);
      addIfFine(out.lamps, cell, burns, 0);
    }

    private void readSteamer() {
      needRoom(out.steamers);
      int step = readStep();
      int cell = readCell();
      addIfFine(out.steamers, step, cell, 0);
    }

    private void readLot() {
      needRoom(out.lots);
      readBlock();
      if (fine() && blockIsOwned()) {
        wrong(NO_SUCH, token);
      }
      int floor = number(0, 9);
      int damage = number(0, 9);
      if (fine()) {
        ownBlock();
        out.lots.add(floor, damage, (east - west + 1) * (south - north + 1), 0);
      }
    }

    private boolean blockIsOwned() {
      for (int y = north; y <= south; y++) {
        for (int x = west; x <= east; x++) {
          if (out.lotOn(x + 10 * y) != NONE) {
            return true;
          }
        }
      }
      return false;
    }

    private void ownBlock() {
      for (int y = north; y <= south; y++) {
        for (int x = west; x <= east; x++) {
          out.giveTo(out.lots.many, x + 10 * y);
        }
      }
    }

    private void readWalk() {
      needRoom(out.walks);
      int cell = readCell();
      int step = readStep();
      int moves = word();
      if (fine() && (moves > Harbour.MOST_MOVES || !walksInPort(cell, moves))) {
        wrong(NO_SUCH, token);
      }
      addIfFine(out.walks, step, moves, 0);
    }

    private boolean walksInPort(int cell, int moves) {
      int walker = out.walks.many;
      int x = cell % 10;
      int y = cell / 10;
      out.putPath(walker, 0, cell);
      for (int i = 0; i < moves; i++) {
        int letter = byteAt(token + i);
        if (letter == 'e') {
          x++;
        } else if (letter == 'w') {
          x--;
        } else if (letter == 's') {
          y++;
        } else if (letter == 'n') {
          y--;
        } else if (letter != 'o') {
          return false;
        }
        if (!out.has(x, y)) {
          return false;
        }
        out.putPath(walker, i + 1, x + 10 * y);
      }
      return true;
    }

    private void readWatch() {
      needRoom(out.watches);
      int cell = readCell();
      addIfFine(out.watches, cell, 0, 0);
    }

    private void readSight() {
      int sight = number(1, FULL);
      if (fine()) {
        out.sight = sight;
      }
    }

    private void readShip() {
      needRoom(out.ships);
      int column = number(0, out.across - 1);
      int bears = number(0, FULL);
      addIfFine(out.ships, column, bears, 0);
    }
  }

  /** A RULE as orders for a stack: each PART's stand behind those of the PARTS before it. */
  static final class Rule {
    static final int ALLOW = 0;
    static final int FIRST = 1;
    static final int PAY = 2;
    static final int MOST = 3;
    /** Below it an order is a number, from it on a fact, from ADD on what is done with the top two. */
    static final int FACT = 1000;
    static final int ADD = 2000;
    static final int LESS_BY = 2001;
    static final int TIMES = 2002;
    static final int BY = 2003;
    static final int BELOW = 2004;
    static final int ABOVE = 2005;
    static final int SAME = 2006;
    static final int AND = 2007;
    static final int OR = 2008;
    static final int NOT = 2009;
    static final int MOST_PARTS = 8;
    private static final int MOST_ORDERS = MOST_RULE;
    private static final int MOST_STACK = 64;

    int parts;
    private int ordered;
    private final int[] orders = new int[MOST_ORDERS];
    private final int[] kinds = new int[MOST_PARTS];
    private final int[] ends = new int[MOST_PARTS];
    private final int[] stack = new int[MOST_STACK];

    void reset() {
      parts = 0;
      ordered = 0;
    }

    void put(int order) {
      if (ordered < MOST_ORDERS) {
        orders[ordered] = order;
        ordered++;
      }
    }

    void endPart(int kind) {
      if (parts < MOST_PARTS) {
        kinds[parts] = kind;
        ends[parts] = ordered;
        parts++;
      }
    }

    /** The last PART of a kind; NONE: there is none. */
    private int lastOf(int kind) {
      for (int part = Math.min(parts, MOST_PARTS) - 1; part >= 0; part--) {
        if (kinds[part] == kind) {
          return part;
        }
      }
      return NONE;
    }

    /** What the last PART of a kind tells, or what holds without one. */
    int tells(int kind, int[] facts, int without) {
      int part = lastOf(kind);
      return part == NONE ? without : value(part, facts);
    }

    boolean lets(int[] facts) {
      if (lastOf(ALLOW) == NONE) {
        return true;
      }
      for (int part = 0; part < parts && part < MOST_PARTS; part++) {
        if (kinds[part] == ALLOW && value(part, facts) != 0) {
          return true;
        }
      }
      return false;
    }

    private int value(int part, int[] facts) {
      int high = 0;
      int from = part > 0 && part <= MOST_PARTS ? ends[part - 1] : 0;
      int to = part >= 0 && part < MOST_PARTS ? ends[part] : 0;
      for (int i = from; i < to && i < MOST_ORDERS; i++) {
        int order = orders[i];
        if (order == NOT) {
          push(high - 1, top(high) == 0 ? 1 : 0);
        } else if (order >= ADD) {
          push(high - 2, done(order, top(high - 1), top(high)));
          high--;
        } else {
          push(high, order < FACT ? order : factOf(facts, order - FACT));
          high++;
        }
      }
      return top(high);
    }

    private static int factOf(int[] facts, int fact) {
      return fact >= 0 && fact < facts.length ? facts[fact] : 0;
    }

    private int top(int high) {
      return high >= 1 && high <= MOST_STACK ? stack[high - 1] : 0;
    }

    private void push(int high, int value) {
      if (high >= 0 && high < MOST_STACK) {
        stack[high] = value;
      }
    }

    private static int done(int order, int a, int b) {
      switch (order) {
        case ADD: return a + b;
        case LESS_BY: return a - b;
        case TIMES: return a * b;
        case BY: return b == 0 ? 0 : a / b;
        case BELOW: return a < b ? 1 : 0;
        case ABOVE: return a > b ? 1 : 0;
        case SAME: return a == b ? 1 : 0;
        case AND: return a & b;
        case OR: return a | b;
        default: return 0;
      }
    }
  }

  static final class RuleReader extends Reader {
    /** How many of ( [ and not may be open at one time. */
    private static final int MOST_OPEN = 6;

    private Rule out;

    RuleReader(int[] bytes) {
      super(bytes);
    }

    void readInto(Rule rule) {
      out = rule;
      out.reset();
      for (int parts = 0; parts < MOST_RULE && fine() && peek() != NONE; parts++) {
        readPart(parts);
      }
    }

    private void readPart(int parts) {
      word();
      int what = partKind();
      if (what == NONE) {
        wrong(STRANGE, token);
      } else if (parts >= Rule.MOST_PARTS) {
        wrong(TOO_MANY, token);
      }
      if (what == Rule.ALLOW) {
        readChoice(0);
      } else {
        readSum(0);
      }
      needSign(';');
      if (fine()) {
        out.endPart(what);
      }
    }

    private int partKind() {
      if (isWord("allow")) {
        return Rule.ALLOW;
      }
      if (isWord("first")) {
        return Rule.FIRST;
      }
      if (isWord("pay")) {
        return Rule.PAY;
      }
      return isWord("most") ? Rule.MOST : NONE;
    }

    /** Whether one more may be open, told at its first byte. */
    private boolean mayOpen(int open) {
      if (open >= MOST_OPEN) {
        wrong(TOO_MANY, token);
      }
      return fine();
    }

    private void readChoice(int open) {
      readBoth(open);
      for (int i = 0; i < MOST_RULE && takesWord("or"); i++) {
        readBoth(open);
        out.put(Rule.OR);
      }
    }

    private void readBoth(int open) {
      readTest(open);
      for (int i = 0; i < MOST_RULE && takesWord("and"); i++) {
        readTest(open);
        out.put(Rule.AND);
      }
    }

    private void readTest(int open) {
      if (takesWord("not")) {
        if (mayOpen(open)) {
          readTest(open + 1);
          out.put(Rule.NOT);
        }
      } else if (takesSign('[')) {
        if (mayOpen(open)) {
          readChoice(open + 1);
          needSign(']');
        }
      } else {
        readSum(open);
        int relation = readRelation();
        readSum(open);
        out.put(relation);
      }
    }

    private int readRelation() {
      if (takesSign('<')) {
        return Rule.BELOW;
      }
      if (takesSign('>')) {
        return Rule.ABOVE;
      }
      needSign('=');
      return Rule.SAME;
    }

    private void readSum(int open) {
      readProduct(open);
      for (int i = 0; i < MOST_RULE && fine(); i++) {
        if (takesSign('+')) {
          readProduct(open);
          out.put(Rule.ADD);
        } else if (takesSign('-')) {
          readProduct(open);
          out.put(Rule.LESS_BY);
        } else {
          return;
        }
      }
    }

    private void readProduct(int open) {
      readUnit(open);
      for (int i = 0; i < MOST_RULE && fine(); i++) {
        if (takesSign('*')) {
          readUnit(open);
          out.put(Rule.TIMES);
        } else if (takesSign('/')) {
          readUnit(open);
          out.put(Rule.BY);
        } else {
          return;
        }
      }
    }

    private void readUnit(int open) {
      if (takesSign('(')) {
        if (mayOpen(open)) {
          readSum(open + 1);
          needSign(')');
        }
      } else if (isDigit(peek())) {
        out.put(number(0, 999));
      } else {
        word();
        int fact = readFact();
        if (fact == NONE) {
          wrong(STRANGE, token);
        }
        out.put(Rule.FACT + fact);
      }
    }

    private int readFact() {
      if (isWord("price")) {
        return Auction.PRICE;
      }
      if (isWord("wants")) {
        return Auction.WANTS;
      }
      if (isWord("lot")) {
        return Auction.LOT;
      }
      if (isWord("step")) {
        return Auction.STEP;
      }
      if (isWord("there")) {
        return Auction.THERE;
      }
      if (isWord("left")) {
        return Auction.LEFT;
      }
      if (isWord("floor")) {
        return Auction.FLOOR;
      }
      if (isWord("number")) {
        return Auction.NUMBER;
      }
      return isWord("bids") ? Auction.BIDS : NONE;
    }
  }

  /** FOG STEP by STEP; row 0 is the FOG at first, row s + 1 what stands behind STEP s. */
  static final class Run {
    private static final int ROWS = STEPS + 1;
    /** One LAMP more than a PORT has, for LIGHT. */
    private static final int LAMPS = MOST_LAMPS + 1;
    private static final int[] EIGHTH_TURN = {3, 0, 1, 6, 4, 2, 7, 8, 5};
    private static final int NO_WAY = 4;

    Harbour harbour;
    /** So many STEPS are reckoned. */
    private int steps;
    private int seed;
    private int odds;
    private int moreLamp;
    private int moreBurns;
    private final int[] fog = new int[ROWS * CELLS];
    private final int[] stood = new int[ROWS];
    private final int[] gone = new int[ROWS];
    private final int[] burnt = new int[ROWS];
    private final int[] thinned = new int[ROWS];
    private final int[] moved = new int[ROWS];
    private final int[] led = new int[LAMPS * ROWS];
    private final int[] burntBy = new int[LAMPS * CELLS];
    private final int[] leaks = new int[MOST_LOTS * MOST_LOTS];

    Run(Harbour harbour) {
      begin(harbour);
    }

    void begin(Harbour told) {
      harbour = told;
      steps = 0;
      odds = 0;
      moreLamp = NONE;
      System.arraycopy(told.first, 0, fog, 0, CELLS);
      Arrays.fill(burntBy, 0);
      Arrays.fill(leaks, 0);
      addUp(0);
    }

    void inDoubt(int firstSeed, int q) {
      seed = firstSeed;
      odds = q;
    }

    void withLamp(int cell, int burns) {
      moreLamp = cell;
      moreBurns = burns;
    }

    /** Goes on from where another run stands behind a STEP, but for the FOG on one CELL. */
    void duel(Run other, int step, int cell) {
      harbour = other.harbour;
      odds = 0;
      moreLamp = NONE;
      if (step >= 0 && step < STEPS && cell >= 0 && cell < CELLS) {
        int row = (step + 1) * CELLS;
        System.arraycopy(other.fog, row, fog, row, CELLS);
        fog[row + cell] = 0;
        steps = step + 1;
        addUp(step + 1);
      }
    }

    void upTo(int step) {
      for (int s = Math.max(0, steps); s <= step && s < STEPS; s++) {
        goOn(s);
        steps = s + 1;
      }
    }

    private void goOn(int s) {
      System.arraycopy(fog, s * CELLS, fog, (s + 1) * CELLS, CELLS);
      gone[s + 1] = gone[s];
      burnt[s + 1] = burnt[s];
      thinned[s + 1] = thinned[s];
      moved[s + 1] = 0;
      for (int lamp = 0; lamp < LAMPS; lamp++) {
        led[lamp * ROWS + s + 1] = led[lamp * ROWS + s];
      }
      boolean turned = draws();
      // without FOG no part of a STEP does anything
      if (stood[s] > 0) {
        blow(s, turned);
        mixAll(s);
        spill(s + 1);
        burnAll(s + 1);
        thinOut(s);
      }
      addUp(s + 1);
    }

    private boolean draws() {
      seed = seed * 1103515245 + 12345;
      return ((seed >>> 16) & 7) < odds;
    }

    private void blow(int s, boolean turned) {
      int wind = harbour.winds.latest(s);
      int way = wind == NONE ? NO_WAY : harbour.winds.at(wind, 1);
      int parts = wind == NONE ? 0 : harbour.winds.at(wind, 2);
      if (turned && way >= 0 && way < 9) {
        way = EIGHTH_TURN[way];
      }
      if (way == NO_WAY) {
        return;
      }
      for (int y = 0; y < harbour.down; y++) {
        for (int x = 0; x < harbour.across; x++) {
          int goes = fog[s * CELLS + x + 10 * y] * parts / 8;
          if (goes > 0) {
            carry(s, x + 10 * y, way, goes);
          }
        }
      }
    }

    private void carry(int s, int cell, int way, int yards) {
      int row = (s + 1) * CELLS;
      int x = cell % 10 + way / 3 - 1;
      int y = cell / 10 + way % 3 - 1;
      moved[s + 1] += yards;
      fog[row + cell] -= yards;
      if (!harbour.has(x, y)) {
        gone[s + 1] += yards;
        return;
      }
      int to = x + 10 * y;
      fog[row + to] += yards;
      int mine = harbour.lotOn(cell);
      int theirs = harbour.lotOn(to);
      if (mine != theirs && mine != NONE && theirs != NONE) {
        leaks[mine * MOST_LOTS + theirs] += yards;
      }
    }

    private void mixAll(int s) {
      for (int i = 0; i < harbour.steamers.many; i++) {
        if (harbour.steamers.at(i, 0) == s) {
          mix((s + 1) * CELLS, harbour.steamers.at(i, 1));
        }
      }
    }

    private void mix(int row, int cell) {
      int all = 0;
      int cells = 0;
      for (int i = 0; i < 9; i++) {
        int near = nearTo(cell, i);
        if (near != NONE) {
          all += fog[row + near];
          cells++;
        }
      }
      if (cells > 0) {
        int share = all / cells;
        for (int i = 0; i < 9; i++) {
          int near = nearTo(cell, i);
          if (near != NONE) {
            fog[row + near] = share;
          }
        }
        fog[row + cell] += all - share * cells;
      }
    }

    /** A CELL, and the 8 about it, row by row; NONE: off the port. */
    private int nearTo(int cell, int i) {
      int x = cell % 10 + i % 3 - 1;
      int y = cell / 10 + i / 3 - 1;
      boolean here = x >= 0 && x < harbour.across && y >= 0 && y < harbour.down;
      return here ? x + 10 * y : NONE;
    }

    private void spill(int row) {
      for (int i = row * CELLS; i < (row + 1) * CELLS; i++) {
        if (fog[i] > FULL) {
          gone[row] += fog[i] - FULL;
          fog[i] = FULL;
        }
      }
    }

    private void burnAll(int row) {
      int many = harbour.lamps.many;
      for (int i = 0; i < many; i++) {
        burn(row, i, harbour.lamps.at(i, 0), harbour.lamps.at(i, 1));
      }
      if (moreLamp != NONE && many < LAMPS) {
        burn(row, many, moreLamp, moreBurns);
      }
    }

    private void burn(int row, int lamp, int cell, int burns) {
      int together = 0;
      for (int i = 0; i < 9; i++) {
        int near = nearTo(cell, i);
        if (near != NONE) {
          int takes = Math.min(burns, fog[row * CELLS + near]);
          fog[row * CELLS + near] -= takes;
          burntBy[lamp * CELLS + near] += takes;
          together += takes;
        }
      }
      led[lamp * ROWS + row] += together;
      burnt[row] += together;
    }

    private void thinOut(int s) {
      int thin = harbour.thins.latest(s);
      int loses = thin == NONE ? 0 : harbour.thins.at(thin, 1);
      if (loses > 0) {
        for (int i = (s + 1) * CELLS; i < (s + 2) * CELLS; i++) {
          int away = Math.min(loses, fog[i]);
          fog[i] -= away;
          thinned[s + 1] += away;
        }
      }
    }

    private void addUp(int row) {
      int all = 0;
      for (int i = row * CELLS; i < (row + 1) * CELLS; i++) {
        all += fog[i];
      }
      stood[row] = all;
    }

    private static boolean isStep(int step) {
      return step >= NONE && step < STEPS;
    }

    int fogOn(int cell, int step) {
      return isStep(step) && cell >= 0 && cell < CELLS ? fog[(step + 1) * CELLS + cell] : 0;
    }

    int sumOf(int step, int what) {
      if (!isStep(step)) {
        return 0;
      }
      switch (what) {
        case 0: return stood[step + 1];
        case 1: return gone[step + 1];
        case 2: return burnt[step + 1];
        default: return thinned[step + 1];
      }
    }

    int movedIn(int step) {
      return isStep(step) ? moved[step + 1] : 0;
    }

    int ledTo(int lamp, int step) {
      return isStep(step) && lamp >= 0 && lamp < LAMPS ? led[lamp * ROWS + step + 1] : 0;
    }

    int burntOn(int lamp, int cell) {
      boolean known = lamp >= 0 && lamp < LAMPS && cell >= 0 && cell < CELLS;
      return known ? burntBy[lamp * CELLS + cell] : 0;
    }

    int leaked(int lot, int other) {
      boolean known = lot >= 0 && lot < MOST_LOTS && other >= 0 && other < MOST_LOTS;
      return known ? leaks[lot * MOST_LOTS + other] : 0;
    }

    /** What a LOT owes to another one. */
    int damages(int lot, int other) {
      return leaked(lot, other) * harbour.lots.at(other, 1);
    }

    int inLot(int lot, int step) {
      int together = 0;
      for (int y = 0; y < harbour.down; y++) {
        for (int x = 0; x < harbour.across; x++) {
          if (harbour.lotOn(x + 10 * y) == lot) {
            together += fogOn(x + 10 * y, step);
          }
        }
      }
      return together;
    }

    boolean letsIn(int ship, int step) {
      for (int y = 0; y < harbour.down; y++) {
        if (fogOn(harbour.ships.at(ship, 0) + 10 * y, step) > harbour.ships.at(ship, 1)) {
          return false;
        }
      }
      return true;
    }

    boolean standsAs(Run other, int step) {
      for (int y = 0; y < harbour.down; y++) {
        for (int x = 0; x < harbour.across; x++) {
          if (fogOn(x + 10 * y, step) != other.fogOn(x + 10 * y, step)) {
            return false;
          }
        }
      }
      return true;
    }
  }

  /** Who SEES whom in a run's FOG, and what hides a WALKER from the WATCHES. */
  static final class Eyes {
    private static final int TOO_DEAR = 1000000;

    private final int[] cheap = new int[CELLS];
    private final int[] dearer = new int[CELLS];

    /** The FOG on a LINE; NONE: there is no LINE. */
    static int fogBetween(Run run, int from, int to, int step) {
      int across = to % 10 - from % 10;
      int down = to / 10 - from / 10;
      int wide = Math.abs(across);
      int high = Math.abs(down);
      if (wide != 0 && high != 0 && wide != high) {
        return NONE;
      }
      int stride = Integer.compare(across, 0) + 10 * Integer.compare(down, 0);
      int together = 0;
      for (int i = 0; i <= Math.max(wide, high); i++) {
        together += run.fogOn(from + i * stride, step);
      }
      return together;
    }

    /** Whether one on a CELL SEES one on another; NONE stands for one who is not there. */
    private static boolean isClear(Run run, int from, int to, int step) {
      if (from == NONE || to == NONE) {
        return false;
      }
      int between = fogBetween(run, from, to, step);
      return between != NONE && between < run.harbour.sight;
    }

    static boolean seeEachOther(Run run, int walker, int other, int step) {
      Harbour harbour = run.harbour;
      return isClear(run, harbour.cellOf(walker, step), harbour.cellOf(other, step), step);
    }

    /** The WATCHES that SEE a CELL, as bits. */
    static int watchesOn(Run run, int cell, int step) {
      Harbour harbour = run.harbour;
      int bits = 0;
      for (int i = 0; i < harbour.watches.many; i++) {
        if (isClear(run, harbour.watches.at(i, 0), cell, step)) {
          bits |= 1 << i;
        }
      }
      return bits;
    }

    /** The WATCHES that SEE a WALKER in any STEP, as bits. */
    static int watchesEver(Run run, int walker) {
      int bits = 0;
      for (int s = 0; s < STEPS; s++) {
        bits |= watchesOn(run, run.harbour.cellOf(walker, s), s);
      }
      return bits;
    }

    /** The WALKERS who could have SEEN a CELL, as bits. */
    static int walkersOn(Run run, int cell, int step) {
      Harbour harbour = run.harbour;
      int bits = 0;
      for (int i = 0; i < harbour.walks.many; i++) {
        if (isClear(run, harbour.cellOf(i, step), cell, step)) {
          bits |= 1 << i;
        }
      }
      return bits;
    }

    static boolean isHid(Run run, int walker, int step) {
      int cell = run.harbour.cellOf(walker, step);
      if (cell == NONE || watchesOn(run, cell, step) != 0) {
        return false;
      }
      return (walkersOn(run, cell, step) & ~(1 << walker)) == 0;
    }

    /** The least yards about a WALKER on a CELL by which no WATCH SEES him. */
    static int needOn(Run run, int cell, int step) {
      Harbour harbour = run.harbour;
      int need = 0;
      for (int i = 0; i < harbour.watches.many; i++) {
        int between = fogBetween(run, harbour.watches.at(i, 0), cell, step);
        if (between != NONE) {
          need = Math.max(need, harbour.sight - between);
        }
      }
      return need;
    }

    /** The least yards for a walk that is begun in a STEP. */
    static int leastFor(Run run, int walker, int begun) {
      Harbour harbour = run.harbour;
      int least = 0;
      for (int i = 0; i <= harbour.movesOf(walker) && begun + i < STEPS; i++) {
        least = Math.max(least, needOn(run, harbour.pathAt(walker, i), begun + i));
      }
      return least;
    }

    /** The least yards of all ways; NONE: there is no way. */
    int cheapest(Run run, int from, int to, int step, int later) {
      if (from < 0 || from >= CELLS || to < 0 || to >= CELLS) {
        return NONE;
      }
      Arrays.fill(cheap, TOO_DEAR);
      cheap[from] = needOn(run, from, step);
      for (int i = 1; i <= later && i <= MOST_LATER; i++) {
        moveOn(run, step + i);
      }
      return cheap[to] >= TOO_DEAR ? NONE : cheap[to];
    }

    private void moveOn(Run run, int step) {
      Harbour harbour = run.harbour;
      System.arraycopy(cheap, 0, dearer, 0, CELLS);
      for (int y = 0; y < harbour.down; y++) {
        for (int x = 0; x < harbour.across; x++) {
          int least = before(harbour, x, y);
          least = Math.min(least, before(harbour, x - 1, y));
          least = Math.min(least, before(harbour, x + 1, y));
          least = Math.min(least, before(harbour, x, y - 1));
          least = Math.min(least, before(harbour, x, y + 1));
          int cell = x + 10 * y;
          if (cell < CELLS) {
            cheap[cell] = least >= TOO_DEAR ? TOO_DEAR : least + needOn(run, cell, step);
          }
        }
      }
    }

    private int before(Harbour harbour, int x, int y) {
      int cell = x + 10 * y;
      return harbour.has(x, y) && cell < CELLS ? dearer[cell] : TOO_DEAR;
    }
  }

  /** Sells the yards of one LOT in one STEP. */
  static final class Auction {
    static final int LOT = 0;
    static final int WANTS = 1;
    static final int PRICE = 2;
    static final int STEP = 3;
    static final int THERE = 4;
    static final int LEFT = 5;
    static final int FLOOR = 6;
    static final int NUMBER = 7;
    static final int BIDS = 8;

    /** What a RULE can ask for; the first three stand as in a BID's row. */
    private final int[] facts = new int[9];
    private final int[] keys = new int[MOST_BIDS];
    private final int[] gets = new int[MOST_BIDS];
    private final int[] pays = new int[MOST_BIDS];
    private final boolean[] waits = new boolean[MOST_BIDS];
    private int lastPrice;

    private void sendAllAway() {
      Arrays.fill(gets, 0);
      Arrays.fill(pays, 0);
      for (int i = 0; i < MOST_BIDS; i++) {
        waits[i] = false;
      }
    }

    /** Of the BIDS that wait the one with the greatest key, of these the first; NONE: none waits. */
    private int nextUp() {
      int best = NONE;
      for (int i = 0; i < MOST_BIDS; i++) {
        if (waits[i] && (best == NONE || keys[i] > keys[best])) {
          best = i;
        }
      }
      return best;
    }

    void sell(Table bids, int lot, int there, int floor) {
      sendAllAway();
      for (int i = 0; i < bids.many && i < MOST_BIDS; i++) {
        keys[i] = bids.at(i, PRICE);
        waits[i] = bids.at(i, LOT) == lot && keys[i] >= floor;
      }
      int left = there;
      lastPrice = 0;
      for (int turn = 0; turn < MOST_BIDS && left > 0; turn++) {
        int i = nextUp();
        if (i == NONE) {
          return;
        }
        waits[i] = false;
        gets[i] = Math.min(left, bids.at(i, WANTS));
        left -= gets[i];
        lastPrice = keys[i];
      }
    }

    int got(int i) {
      return i >= 0 && i < MOST_BIDS ? gets[i] : 0;
    }

    int paid(int i) {
      return i >= 0 && i < MOST_BIDS ? pays[i] : 0;
    }

    /** What a BID pays for a yard by a WAY. */
    int priceOf(Table bids, int i, int way) {
      return way == 0 ? bids.at(i, PRICE) : lastPrice;
    }

    int takings(Table bids, int way) {
      int together = 0;
      for (int i = 0; i < bids.many; i++) {
        together += got(i) * priceOf(bids, i, way);
      }
      return together;
    }

    /** How many yards BIDS of a price or more want. */
    static int wantedFor(Table bids, int lot, int price) {
      int together = 0;
      for (int i = 0; i < bids.many; i++) {
        if (bids.at(i, LOT) == lot && bids.at(i, PRICE) >= price) {
          together += bids.at(i, WANTS);
        }
      }
      return together;
    }

    void open(int lot, int step, int there, int floor) {
      facts[LOT] = lot;
      facts[STEP] = step;
      facts[THERE] = there;
      facts[LEFT] = there;
      facts[FLOOR] = floor;
    }

    void countBids(Table bids) {
      facts[BIDS] = 0;
      for (int i = 0; i < bids.many; i++) {
        if (bids.at(i, LOT) == facts[LOT]) {
          facts[BIDS]++;
        }
      }
    }

    /** The facts are of this BID from now on. */
    void look(Table bids, int i) {
      facts[NUMBER] = i;
      facts[WANTS] = bids.at(i, WANTS);
      facts[PRICE] = bids.at(i, PRICE);
    }

    boolean isLetIn(Rule rule) {
      return rule.lets(facts);
    }

    int standing(Rule rule) {
      return rule.tells(Rule.FIRST, facts, facts[PRICE]);
    }

    /** Sells what open told of. */
    void sellByRule(Table bids, Rule rule) {
      sendAllAway();
      for (int i = 0; i < bids.many && i < MOST_BIDS; i++) {
        look(bids, i);
        waits[i] = bids.at(i, LOT) == facts[LOT] && isLetIn(rule);
        keys[i] = waits[i] ? standing(rule) : 0;
      }
      for (int turn = 0; turn < MOST_BIDS; turn++) {
        int i = nextUp();
        if (i == NONE) {
          return;
        }
        waits[i] = false;
        look(bids, i);
        serve(i, rule);
      }
    }

    private void serve(int i, Rule rule) {
      int most = Math.max(0, rule.tells(Rule.MOST, facts, facts[WANTS]));
      int price = Math.max(0, rule.tells(Rule.PAY, facts, facts[PRICE]));
      gets[i] = Math.min(facts[LEFT], Math.min(most, facts[WANTS]));
      pays[i] = gets[i] * price;
      facts[LEFT] -= gets[i];
    }
  }

  /** Seeks the duels by which all GAUGES are right. */
  static final class Duels {
    /** Whether what was found last still holds. */
    boolean known;
    int many;
    int step;
    int cell;
    /** The first, the last STEP in which a GAUGE is wrong without a duel; the last one with a GAUGE. */
    private int firstWrong;
    private int lastWrong;
    private int lastGauge;

    private static boolean isRight(Run run, Table gauges, int i) {
      return run.fogOn(gauges.at(i, 1), gauges.at(i, 0)) == gauges.at(i, 2);
    }

    private static int lastStep(Table gauges) {
      int last = NONE;
      for (int i = 0; i < gauges.many; i++) {
        last = Math.max(last, gauges.at(i, 0));
      }
      return last;
    }

    static boolean areRight(Run run, Table gauges) {
      run.upTo(lastStep(gauges));
      for (int i = 0; i < gauges.many; i++) {
        if (!isRight(run, gauges, i)) {
          return false;
        }
      }
      return true;
    }

    private static boolean areRightIn(Run run, Table gauges, int step) {
      for (int i = 0; i < gauges.many; i++) {
        if (gauges.at(i, 0) == step && !isRight(run, gauges, i)) {
          return false;
        }
      }
      return true;
    }

    void seek(Run base, Run trial, Table gauges) {
      if (known) {
        return;
      }
      known = true;
      many = 0;
      step = NONE;
      cell = NONE;
      lookWithout(base, gauges);
      for (int s = 0; s < STEPS && s <= firstWrong; s++) {
        for (int y = 0; y < base.harbour.down; y++) {
          for (int x = 0; x < base.harbour.across; x++) {
            if (fits(base, trial, gauges, s, x + 10 * y)) {
              keep(s, x + 10 * y);
            }
          }
        }
      }
    }

    private void lookWithout(Run base, Table gauges) {
      lastGauge = lastStep(gauges);
      firstWrong = STEPS;
      lastWrong = NONE;
      base.upTo(lastGauge);
      for (int i = 0; i < gauges.many; i++) {
        if (!isRight(base, gauges, i)) {
          firstWrong = Math.min(firstWrong, gauges.at(i, 0));
          lastWrong = Math.max(lastWrong, gauges.at(i, 0));
        }
      }
    }

    private void keep(int s, int where) {
      if (many == 0) {
        step = s;
        cell = where;
      }
      many++;
    }

    /** The GAUGES of the STEPS before are right: the rest is looked at till FOG stands as without a duel. */
    private boolean fits(Run base, Run trial, Table gauges, int s, int where) {
      if (s > lastGauge) {
        return true;
      }
      if (base.fogOn(where, s) == 0) {
        return lastWrong < s;
      }
      trial.duel(base, s, where);
      for (int t = s; t <= lastGauge && t < STEPS; t++) {
        trial.upTo(t);
        if (!areRightIn(trial, gauges, t)) {
          return false;
        }
        if (trial.standsAs(base, t)) {
          return lastWrong <= t;
        }
      }
      return true;
    }
  }

  /** An IMAGE of what a call can change. */
  static final class Image {
    private final int[] first = new int[CELLS];
    private final Table bids = new Table(MOST_BIDS);
    private final Table gauges = new Table(MOST_GAUGES);

    void take(Harbour harbour, Table bidsNow, Table gaugesNow) {
      System.arraycopy(harbour.first, 0, first, 0, CELLS);
      bids.takeFrom(bidsNow);
      gauges.takeFrom(gaugesNow);
    }

    void give(Harbour harbour, Table bidsNow, Table gaugesNow) {
      System.arraycopy(first, 0, harbour.first, 0, CELLS);
      bidsNow.takeFrom(bids);
      gaugesNow.takeFrom(gauges);
    }
  }
}
