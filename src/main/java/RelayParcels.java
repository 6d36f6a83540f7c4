/** Parcels that are carried by travellers, from town to town and from hand to hand. */
public final class RelayParcels {
    public static final int INVALID_ARGUMENT = -1;
    public static final int ILLEGAL_STATE = -2;
    public static final int CAPACITY_EXCEEDED = -3;
    public static final int NONE = -9;

    private static final int TOWNS = 6;
    private static final int PERSONS = 8;
    private static final int TRIPS = 16;
    private static final int PARCELS = 10;
    private static final int LAST_HOUR = 500;
    private static final int HELD_BY_ONE = 3;
    private static final int HOURS_UNTIL_CLAIM = 10;
    private static final int SLOTS = 2;
    private static final int STATES_KEPT = 5;
    private static final int TEXT_ROOM = 80;

    /** A holder from this number on is the locker of the town that is left when it is taken off. */
    private static final int LOCKER = 10;

    private static final int OFFERED = 0;
    private static final int ON_THE_ROAD = 1;
    private static final int DONE = 2;
    private static final int VOID = 3;

    private static final int UNDER_WAY = 0;
    private static final int DELIVERED = 1;
    private static final int LOST = 2;

    private static final int[] COVER_COSTS = {0, 2, 5, 10};
    private static final int[] COVERS = {0, 50, 200, 999};

    /** What the tests ahead of a change answer if nothing forbids it; every error is below it. */
    private static final int FINE = 0;

    /** A fault of -1000 minus its index tells where a text is wrong. */
    private static final int TEXT_FAULT = -1000;

    private final State present = new State();
    /** Undoing and restoring copy into this world, so it stays the same object. */
    private final World world = present.world;
    private final History history = new History();
    private final Text text = new Text();
    private final Ways ways = new Ways(world);

    public RelayParcels() {
    }

    // ---- trips and parcels

    public int offer(int person, int from, int to, int in, int length, int fee) {
        int fault = world.offerFault(person, from, to, in, length, fee);
        if (fault < FINE) {
            return fault;
        }
        history.keep(present);
        return world.addTrip(person, from, to, in, length, fee);
    }

    public int takeBack(int trip) {
        int fault = world.takeBackFault(trip);
        if (fault < FINE) {
            return fault;
        }
        history.keep(present);
        return world.voidTrip(trip);
    }

    public int post(int sender, int receiver, int town, int worth, int tier) {
        int fault = world.postFault(sender, receiver, town, worth, tier);
        if (fault < FINE) {
            return fault;
        }
        history.keep(present);
        return world.addParcel(sender, receiver, town, worth, tier);
    }

    public int pass(int hours) {
        int fault = world.passFault(hours);
        if (fault < FINE) {
            return fault;
        }
        history.keep(present);
        return world.passHours(hours);
    }

    // ---- words

    public int gave(int person, int parcel, int other) {
        int fault = world.handoverFault(person, parcel, other);
        if (fault < FINE) {
            return fault;
        }
        history.keep(present);
        return world.sayGiven(parcel, other);
    }

    public int took(int person, int parcel, int other) {
        int fault = world.handoverFault(other, parcel, person);
        if (fault < FINE) {
            return fault;
        }
        history.keep(present);
        return world.sayTaken(parcel, person);
    }

    public int putIn(int person, int parcel) {
        int fault = world.putInFault(person, parcel);
        if (fault < FINE) {
            return fault;
        }
        history.keep(present);
        return world.putIntoLocker(person, parcel);
    }

    public int fetch(int person, int parcel) {
        int fault = world.fetchFault(person, parcel);
        if (fault < FINE) {
            return fault;
        }
        history.keep(present);
        return world.fetchFromLocker(person, parcel);
    }

    public int claim(int parcel) {
        int fault = world.claimFault(parcel);
        if (fault < FINE) {
            return fault;
        }
        history.keep(present);
        return world.loseParcel(parcel);
    }

    // ---- snapshots

    public int take(int slot) {
        if (!isWithin(slot, 0, SLOTS - 1)) {
            return INVALID_ARGUMENT;
        }
        history.keep(present);
        present.fillSlot(slot, world);
        return world.hour;
    }

    public int restore(int slot) {
        if (!isWithin(slot, 0, SLOTS - 1)) {
            return INVALID_ARGUMENT;
        }
        World snapshot = present.snapshotIn(slot);
        if (snapshot == null) {
            return ILLEGAL_STATE;
        }
        history.keep(present);
        world.copyFrom(snapshot);
        return world.hour;
    }

    public int undo() {
        State latest = history.removeLatest();
        if (latest == null) {
            return ILLEGAL_STATE;
        }
        present.copyFrom(latest);
        return history.kept;
    }

    // ---- text

    public int append(int character) {
        if (!isWithin(character, 1, 255)) {
            return INVALID_ARGUMENT;
        }
        if (text.length >= TEXT_ROOM) {
            return CAPACITY_EXCEEDED;
        }
        text.add((char) character);
        return text.length;
    }

    public int clearText() {
        int length = text.length;
        text.length = 0;
        return length;
    }

    public int carryOut() {
        int fault = text.fault();
        if (fault != NONE) {
            return TEXT_FAULT - fault;
        }
        history.keep(present);
        int carriedOut = 0;
        for (int place = 0; place < text.length; place++) {
            if (!text.beginsOrder(place)) {
                continue;
            }
            if (followOrder(place) < FINE) {
                break;
            }
            carriedOut++;
        }
        text.length = 0;
        return carriedOut;
    }

    // ---- looking

    public int count(int what) {
        if (!isWithin(what, 0, 15)) {
            return INVALID_ARGUMENT;
        }
        switch (what) {
            case 13:
                return present.filledSlots();
            case 14:
                return history.kept;
            case 15:
                return text.length;
            default:
                return world.number(what);
        }
    }

    public int trip(int trip, int what) {
        if (!world.isTrip(trip) || !isWithin(what, 0, 6)) {
            return INVALID_ARGUMENT;
        }
        return world.trips[trip].tell(what);
    }

    public int person(int person, int what) {
        if (!isPerson(person) || !isWithin(what, 0, 5)) {
            return INVALID_ARGUMENT;
        }
        return world.tellPerson(person, what);
    }

    public int parcel(int parcel, int what) {
        if (!world.isParcel(parcel) || !isWithin(what, 0, 10)) {
            return INVALID_ARGUMENT;
        }
        return world.tellParcel(parcel, what);
    }

    public int holderAt(int parcel, int hour) {
        if (!world.isParcel(parcel) || !isWithin(hour, 0, world.hour)) {
            return INVALID_ARGUMENT;
        }
        return world.holders.lookUp(parcel, hour);
    }

    public int inLocker(int town) {
        if (!isTown(town)) {
            return INVALID_ARGUMENT;
        }
        return world.heldBy(LOCKER + town);
    }

    // ---- what could be, which changes nothing

    public int earliest(int parcel, int what) {
        if (!world.isParcel(parcel) || !isWithin(what, 0, 2)) {
            return INVALID_ARGUMENT;
        }
        if (world.parcels[parcel].state != UNDER_WAY) {
            return ILLEGAL_STATE;
        }
        ways.search(parcel, false);
        if (!ways.found) {
            return NONE;
        }
        if (what == 0) {
            return ways.least;
        }
        return what == 1 ? ways.thenLeast : ways.smallestFirst;
    }

    public int cheapest(int parcel, int what) {
        if (!world.isParcel(parcel) || !isWithin(what, 0, 1)) {
            return INVALID_ARGUMENT;
        }
        if (world.parcels[parcel].state != UNDER_WAY) {
            return ILLEGAL_STATE;
        }
        ways.search(parcel, true);
        if (!ways.found) {
            return NONE;
        }
        return what == 0 ? ways.least : ways.thenLeast;
    }

    public int wouldClaim(int parcel, int what) {
        if (!world.isParcel(parcel) || !isWithin(what, 0, 2)) {
            return INVALID_ARGUMENT;
        }
        if (!world.isCoveredNow(parcel)) {
            return ILLEGAL_STATE;
        }
        if (what == 0) {
            return world.fundPays(parcel);
        }
        return what == 1 ? world.holderPays(parcel) : world.namedPays(parcel);
    }

    /** Orders record no state of their own: the text as a whole is one action. */
    private int followOrder(int place) {
        int first = text.digit(place + 1);
        int parcel = text.digit(place + 2);
        int second = text.digit(place + 3);
        int fault;
        switch (text.sign(place)) {
            case 'g':
                fault = world.handoverFault(first, parcel, second);
                return fault < FINE ? fault : world.sayGiven(parcel, second);
            case 't':
                fault = world.handoverFault(second, parcel, first);
                return fault < FINE ? fault : world.sayTaken(parcel, first);
            case 'p':
                fault = world.putInFault(first, parcel);
                return fault < FINE ? fault : world.putIntoLocker(first, parcel);
            case 'f':
                fault = world.fetchFault(first, parcel);
                return fault < FINE ? fault : world.fetchFromLocker(first, parcel);
            default:
                fault = world.passFault(1);
                return fault < FINE ? fault : world.passHours(1);
        }
    }

    private static boolean isWithin(int number, int low, int high) {
        return number >= low && number <= high;
    }

    private static boolean isPerson(int number) {
        return isWithin(number, 0, PERSONS - 1);
    }

    private static boolean isTown(int number) {
        return isWithin(number, 0, TOWNS - 1);
    }

    private static final class Person {
        int coins = 100;
        int deposit = 40;
        int town;
        int tripOn = NONE;
        int feesGot;

        Person(int town) {
            this.town = town;
        }

        void copyFrom(Person other) {
            coins = other.coins;
            deposit = other.deposit;
            town = other.town;
            tripOn = other.tripOn;
            feesGot = other.feesGot;
        }
    }

    private static final class Trip {
        int traveller;
        int from;
        int to;
        int leaves;
        int arrives;
        int fee;
        int state;

        void copyFrom(Trip other) {
            traveller = other.traveller;
            from = other.from;
            to = other.to;
            leaves = other.leaves;
            arrives = other.arrives;
            fee = other.fee;
            state = other.state;
        }

        boolean isOpen() {
            return state == OFFERED || state == ON_THE_ROAD;
        }

        boolean overlaps(int otherLeaves, int otherArrives) {
            return leaves < otherArrives && otherLeaves < arrives;
        }

        /** An offered trip leaves later than the present hour: when its hour comes, it is offered no more. */
        boolean canBeCaught(int town, int hour) {
            return state == OFFERED && from == town && leaves >= hour;
        }

        int tell(int what) {
            switch (what) {
                case 0:
                    return traveller;
                case 1:
                    return from;
                case 2:
                    return to;
                case 3:
                    return leaves;
                case 4:
                    return arrives;
                case 5:
                    return fee;
                default:
                    return state;
            }
        }
    }

    private static final class Parcel {
        int sender;
        int receiver;
        int destination;
        int worth;
        int tier;
        int state;
        int holder;
        int heldSince;
        /** The word of the holder, NONE if none stands. */
        int givenTo;
        /** The word of the one who took it from the holder, NONE if none stands. */
        int takenBy;

        void copyFrom(Parcel other) {
            sender = other.sender;
            receiver = other.receiver;
            destination = other.destination;
            worth = other.worth;
            tier = other.tier;
            state = other.state;
            holder = other.holder;
            heldSince = other.heldSince;
            givenTo = other.givenTo;
            takenBy = other.takenBy;
        }

        void dropWords() {
            givenTo = NONE;
            takenBy = NONE;
        }

        /** Both words name the one who holds the parcel next; the other side is the holder in both. */
        boolean wordsFit() {
            return givenTo != NONE && givenTo == takenBy;
        }
    }

    /** Who held which parcel since when, in the order in which it came about. */
    private static final class Holders {
        /** Each call brings one new holder at most (an order of a text takes several calls to write). */
        private static final int ROOM = 512;
        private static final int OF_HOUR = 256;
        private static final int OF_PARCEL = 16;

        private final int[] entries = new int[ROOM];
        private int size;

        void copyFrom(Holders other) {
            size = other.size;
            System.arraycopy(other.entries, 0, entries, 0, size);
        }

        void note(int hour, int parcel, int holder) {
            if (size < ROOM) {
                entries[size] = hour * OF_HOUR + parcel * OF_PARCEL + holder;
                size++;
            }
        }

        int lookUp(int parcel, int hour) {
            for (int i = size - 1; i >= 0; i--) {
                int entry = entries[i];
                if ((entry % OF_HOUR) / OF_PARCEL == parcel && entry / OF_HOUR <= hour) {
                    return entry % OF_PARCEL;
                }
            }
            return NONE;
        }
    }

    /** All that a snapshot keeps. */
    private static final class World {
        int hour;
        int fund;
        int handovers;
        int feesPaid;
        int tripCount;
        int parcelCount;
        final Person[] persons = new Person[PERSONS];
        final Trip[] trips = new Trip[TRIPS];
        final Parcel[] parcels = new Parcel[PARCELS];
        final Holders holders = new Holders();

        World() {
            for (int i = 0; i < PERSONS; i++) {
                persons[i] = new Person(i % TOWNS);
            }
            for (int i = 0; i < TRIPS; i++) {
                trips[i] = new Trip();
            }
            for (int i = 0; i < PARCELS; i++) {
                parcels[i] = new Parcel();
            }
        }

        void copyFrom(World other) {
            hour = other.hour;
            fund = other.fund;
            handovers = other.handovers;
            feesPaid = other.feesPaid;
            tripCount = other.tripCount;
            parcelCount = other.parcelCount;
            for (int i = 0; i < PERSONS; i++) {
                persons[i].copyFrom(other.persons[i]);
            }
            for (int i = 0; i < tripCount; i++) {
                trips[i].copyFrom(other.trips[i]);
            }
            for (int i = 0; i < parcelCount; i++) {
                parcels[i].copyFrom(other.parcels[i]);
            }
            holders.copyFrom(other.holders);
        }

        boolean isTrip(int number) {
            return number >= 0 && number < tripCount;
        }

        boolean isParcel(int number) {
            return number >= 0 && number < parcelCount;
        }

        int heldBy(int holder) {
            int held = 0;
            for (int i = 0; i < parcelCount; i++) {
                if (parcels[i].state == UNDER_WAY && parcels[i].holder == holder) {
                    held++;
                }
            }
            return held;
        }

        /** The town of a person or of a locker, NONE on the road. */
        int townOf(int holder) {
            return holder >= LOCKER ? holder - LOCKER : persons[holder].town;
        }

        /** The trip on which a holder is, NONE in a town. */
        int tripOf(int holder) {
            return holder >= LOCKER ? NONE : persons[holder].tripOn;
        }

        boolean areTogether(int person, int other) {
            return townOf(person) != NONE && townOf(person) == townOf(other);
        }

        boolean isHeldUnderWay(int parcel, int holder) {
            return parcels[parcel].state == UNDER_WAY && parcels[parcel].holder == holder;
        }

        // ---- trips

        int offerFault(int person, int from, int to, int in, int length, int fee) {
            if (!isPerson(person) || !isTown(from) || !isTown(to) || from == to) {
                return INVALID_ARGUMENT;
            }
            if (!isWithin(in, 1, 50) || !isWithin(length, 1, 50) || !isWithin(fee, 0, 99)) {
                return INVALID_ARGUMENT;
            }
            if (overlapsATrip(person, hour + in, hour + in + length)) {
                return ILLEGAL_STATE;
            }
            return tripCount < TRIPS ? FINE : CAPACITY_EXCEEDED;
        }

        private boolean overlapsATrip(int person, int leaves, int arrives) {
            for (int i = 0; i < tripCount; i++) {
                Trip trip = trips[i];
                if (trip.traveller == person && trip.isOpen() && trip.overlaps(leaves, arrives)) {
                    return true;
                }
            }
            return false;
        }

        int addTrip(int person, int from, int to, int in, int length, int fee) {
            Trip trip = trips[tripCount];
            trip.traveller = person;
            trip.from = from;
            trip.to = to;
            trip.leaves = hour + in;
            trip.arrives = hour + in + length;
            trip.fee = fee;
            trip.state = OFFERED;
            tripCount++;
            return tripCount - 1;
        }

        int takeBackFault(int trip) {
            if (!isTrip(trip)) {
                return INVALID_ARGUMENT;
            }
            return trips[trip].state == OFFERED ? FINE : ILLEGAL_STATE;
        }

        int voidTrip(int trip) {
            trips[trip].state = VOID;
            return trips[trip].leaves;
        }

        int passFault(int hours) {
            if (!isWithin(hours, 1, 24)) {
                return INVALID_ARGUMENT;
            }
            return hour + hours <= LAST_HOUR ? FINE : CAPACITY_EXCEEDED;
        }

        int passHours(int hours) {
            int done = 0;
            for (int i = 0; i < hours; i++) {
                hour++;
                done += endTrips();
                startTrips();
            }
            return done;
        }

        private int endTrips() {
            int done = 0;
            for (int i = 0; i < tripCount; i++) {
                Trip trip = trips[i];
                if (trip.state == ON_THE_ROAD && trip.arrives == hour) {
                    trip.state = DONE;
                    persons[trip.traveller].town = trip.to;
                    persons[trip.traveller].tripOn = NONE;
                    done++;
                }
            }
            return done;
        }

        private void startTrips() {
            for (int i = 0; i < tripCount; i++) {
                Trip trip = trips[i];
                if (trip.state == OFFERED && trip.leaves == hour) {
                    startTrip(i);
                }
            }
        }

        private void startTrip(int number) {
            Trip trip = trips[number];
            Person traveller = persons[trip.traveller];
            if (traveller.town == trip.from) {
                trip.state = ON_THE_ROAD;
                traveller.town = NONE;
                traveller.tripOn = number;
            } else {
                trip.state = VOID;
            }
        }

        // ---- parcels and handovers

        int postFault(int sender, int receiver, int town, int worth, int tier) {
            if (!isPerson(sender) || !isPerson(receiver) || sender == receiver || !isTown(town)) {
                return INVALID_ARGUMENT;
            }
            if (!isWithin(worth, 1, 999) || !isWithin(tier, 0, 3)) {
                return INVALID_ARGUMENT;
            }
            boolean onTheRoad = persons[sender].town == NONE;
            boolean tooPoor = persons[sender].coins < COVER_COSTS[tier];
            if (onTheRoad || tooPoor || heldBy(sender) >= HELD_BY_ONE) {
                return ILLEGAL_STATE;
            }
            return parcelCount < PARCELS ? FINE : CAPACITY_EXCEEDED;
        }

        int addParcel(int sender, int receiver, int town, int worth, int tier) {
            Parcel parcel = parcels[parcelCount];
            parcel.sender = sender;
            parcel.receiver = receiver;
            parcel.destination = town;
            parcel.worth = worth;
            parcel.tier = tier;
            parcel.state = UNDER_WAY;
            persons[sender].coins -= COVER_COSTS[tier];
            fund += COVER_COSTS[tier];
            parcelCount++;
            setHolder(parcelCount - 1, sender);
            return parcelCount - 1;
        }

        private void setHolder(int number, int holder) {
            Parcel parcel = parcels[number];
            parcel.holder = holder;
            parcel.heldSince = hour;
            parcel.dropWords();
            holders.note(hour, number, holder);
        }

        /** The same for both words: who gives must hold the parcel, who takes must have room for it. */
        int handoverFault(int giver, int parcel, int taker) {
            if (!isPerson(giver) || !isParcel(parcel) || !isPerson(taker) || giver == taker) {
                return INVALID_ARGUMENT;
            }
            boolean possible = isHeldUnderWay(parcel, giver) && areTogether(giver, taker);
            return possible && heldBy(taker) < HELD_BY_ONE ? FINE : ILLEGAL_STATE;
        }

        int sayGiven(int parcel, int taker) {
            parcels[parcel].givenTo = taker;
            return handOverIfWordsFit(parcel, taker);
        }

        int sayTaken(int parcel, int taker) {
            parcels[parcel].takenBy = taker;
            return handOverIfWordsFit(parcel, taker);
        }

        private int handOverIfWordsFit(int parcel, int taker) {
            if (!parcels[parcel].wordsFit()) {
                return 0;
            }
            handOver(parcel, taker);
            settleWithTaker(parcel, taker);
            return 1;
        }

        private void handOver(int parcel, int holder) {
            handovers++;
            setHolder(parcel, holder);
        }

        private void settleWithTaker(int number, int taker) {
            Parcel parcel = parcels[number];
            if (taker != parcel.receiver) {
                payFee(parcel.sender, taker);
            } else if (persons[taker].town == parcel.destination) {
                parcel.state = DELIVERED;
            }
        }

        private void payFee(int sender, int carrier) {
            int next = nextTripOf(carrier);
            if (next == NONE) {
                return;
            }
            int paid = Math.min(trips[next].fee, persons[sender].coins);
            persons[sender].coins -= paid;
            persons[carrier].coins += paid;
            persons[carrier].feesGot += paid;
            feesPaid += paid;
        }

        /** The offered trip that leaves first from where the person is, NONE if there is none. */
        private int nextTripOf(int person) {
            int next = NONE;
            for (int i = 0; i < tripCount; i++) {
                Trip trip = trips[i];
                boolean fromHere = trip.state == OFFERED && trip.from == persons[person].town;
                if (trip.traveller != person || !fromHere) {
                    continue;
                }
                if (next == NONE || trip.leaves < trips[next].leaves) {
                    next = i;
                }
            }
            return next;
        }

        int putInFault(int person, int parcel) {
            if (!isPerson(person) || !isParcel(parcel)) {
                return INVALID_ARGUMENT;
            }
            int town = persons[person].town;
            if (!isHeldUnderWay(parcel, person) || town == NONE) {
                return ILLEGAL_STATE;
            }
            return heldBy(LOCKER + town) < HELD_BY_ONE ? FINE : CAPACITY_EXCEEDED;
        }

        int putIntoLocker(int person, int parcel) {
            int locker = LOCKER + persons[person].town;
            handOver(parcel, locker);
            return heldBy(locker);
        }

        int fetchFault(int person, int parcel) {
            if (!isPerson(person) || !isParcel(parcel)) {
                return INVALID_ARGUMENT;
            }
            int town = persons[person].town;
            boolean possible = town != NONE && isHeldUnderWay(parcel, LOCKER + town);
            return possible && heldBy(person) < HELD_BY_ONE ? FINE : ILLEGAL_STATE;
        }

        int fetchFromLocker(int person, int parcel) {
            handOver(parcel, person);
            settleWithTaker(parcel, person);
            return heldBy(LOCKER + persons[person].town);
        }

        // ---- claims

        /** While the sender holds the parcel itself, there is nothing that it could claim. */
        boolean isCoveredNow(int number) {
            Parcel parcel = parcels[number];
            return parcel.state == UNDER_WAY && parcel.holder != parcel.sender;
        }

        int claimFault(int parcel) {
            if (!isParcel(parcel)) {
                return INVALID_ARGUMENT;
            }
            boolean heldLongEnough = hour - parcels[parcel].heldSince >= HOURS_UNTIL_CLAIM;
            return isCoveredNow(parcel) && heldLongEnough ? FINE : ILLEGAL_STATE;
        }

        int fundPays(int parcel) {
            int covered = Math.min(parcels[parcel].worth, COVERS[parcels[parcel].tier]);
            return Math.min(covered, fund);
        }

        private int missing(int parcel) {
            return parcels[parcel].worth - fundPays(parcel);
        }

        int holderPays(int number) {
            Parcel parcel = parcels[number];
            if (parcel.holder >= LOCKER) {
                return 0;
            }
            int missing = missing(number);
            int owed = parcel.givenTo == NONE ? missing : missing - missing / 2;
            return Math.min(owed, persons[parcel.holder].deposit);
        }

        /** What the one pays whom the holder's word names as the next one. */
        int namedPays(int number) {
            int named = parcels[number].givenTo;
            return named == NONE ? 0 : Math.min(missing(number) / 2, persons[named].deposit);
        }

        int loseParcel(int number) {
            Parcel parcel = parcels[number];
            int fromFund = fundPays(number);
            int fromHolder = holderPays(number);
            int fromNamed = namedPays(number);
            fund -= fromFund;
            if (parcel.holder < LOCKER) {
                persons[parcel.holder].deposit -= fromHolder;
            }
            if (parcel.givenTo != NONE) {
                persons[parcel.givenTo].deposit -= fromNamed;
            }
            int got = fromFund + fromHolder + fromNamed;
            persons[parcel.sender].coins += got;
            parcel.state = LOST;
            parcel.dropWords();
            return got;
        }

        // ---- looking

        int number(int what) {
            switch (what) {
                case 0:
                    return hour;
                case 1:
                    return tripCount;
                case 2:
                    return tripsThatAre(OFFERED);
                case 3:
                    return tripsThatAre(ON_THE_ROAD);
                case 4:
                    return tripsThatAre(DONE);
                case 5:
                    return parcelCount;
                case 6:
                    return parcelsThatAre(UNDER_WAY);
                case 7:
                    return parcelsThatAre(DELIVERED);
                case 8:
                    return parcelsThatAre(LOST);
                case 9:
                    return fund;
                case 10:
                    return coinsOfAll();
                case 11:
                    return handovers;
                default:
                    return feesPaid;
            }
        }

        private int tripsThatAre(int state) {
            int found = 0;
            for (int i = 0; i < tripCount; i++) {
                if (trips[i].state == state) {
                    found++;
                }
            }
            return found;
        }

        private int parcelsThatAre(int state) {
            int found = 0;
            for (int i = 0; i < parcelCount; i++) {
                if (parcels[i].state == state) {
                    found++;
                }
            }
            return found;
        }

        private int coinsOfAll() {
            int sum = 0;
            for (int i = 0; i < PERSONS; i++) {
                sum += persons[i].coins + persons[i].deposit;
            }
            return sum;
        }

        int tellPerson(int number, int what) {
            Person person = persons[number];
            switch (what) {
                case 0:
                    return person.coins;
                case 1:
                    return person.deposit;
                case 2:
                    return person.town;
                case 3:
                    return person.tripOn;
                case 4:
                    return heldBy(number);
                default:
                    return person.feesGot;
            }
        }

        int tellParcel(int number, int what) {
            Parcel parcel = parcels[number];
            switch (what) {
                case 0:
                    return parcel.sender;
                case 1:
                    return parcel.receiver;
                case 2:
                    return parcel.destination;
                case 3:
                    return parcel.worth;
                case 4:
                    return parcel.tier;
                case 5:
                    return parcel.state;
                case 6:
                    return parcel.holder;
                case 7:
                    return parcel.heldSince;
                case 8:
                    return parcel.givenTo;
                case 9:
                    return parcel.takenBy;
                default:
                    return parcel.state == UNDER_WAY ? townOf(parcel.holder) : NONE;
            }
        }
    }

    /** The world and the snapshots that were taken of it: what undoing brings back. */
    private static final class State {
        final World world = new World();
        /** A row is made when it is first needed, and kept for the next snapshot when it is emptied. */
        private final World[] rows = new World[SLOTS];
        private final boolean[] filled = new boolean[SLOTS];

        void copyFrom(State other) {
            world.copyFrom(other.world);
            for (int i = 0; i < SLOTS; i++) {
                World snapshot = other.snapshotIn(i);
                filled[i] = false;
                if (snapshot != null) {
                    fillSlot(i, snapshot);
                }
            }
        }

        void fillSlot(int slot, World snapshot) {
            if (rows[slot] == null) {
                rows[slot] = new World();
            }
            rows[slot].copyFrom(snapshot);
            filled[slot] = true;
        }

        /** The snapshot in the slot, null if it is empty. */
        World snapshotIn(int slot) {
            return filled[slot] ? rows[slot] : null;
        }

        int filledSlots() {
            int found = 0;
            for (int i = 0; i < SLOTS; i++) {
                if (filled[i]) {
                    found++;
                }
            }
            return found;
        }
    }

    /** The latest states, in a ring, so that the oldest one gives its place to the newest. */
    private static final class History {
        /** A row is made when it is first needed, and used again from then on. */
        private final State[] ring = new State[STATES_KEPT];
        private int newest;
        int kept;

        void keep(State state) {
            newest = (newest + 1) % STATES_KEPT;
            if (ring[newest] == null) {
                ring[newest] = new State();
            }
            ring[newest].copyFrom(state);
            kept = Math.min(kept + 1, STATES_KEPT);
        }

        /** The latest state, null if none is kept. */
        State removeLatest() {
            if (kept == 0) {
                return null;
            }
            State latest = ring[newest];
            newest = (newest + STATES_KEPT - 1) % STATES_KEPT;
            kept--;
            return latest;
        }
    }

    /** The text, and where its orders begin. */
    private static final class Text {
        private static final int LETTER_DUE = -1;
        private static final int SEPARATOR_DUE = 0;

        private final char[] signs = new char[TEXT_ROOM];
        int length;

        void add(char sign) {
            signs[length] = sign;
            length++;
        }

        char sign(int place) {
            return place >= 0 && place < length ? signs[place] : ';';
        }

        /** The digit's number, or 0 past the end: orders with fewer digits don't look at it. */
        int digit(int place) {
            return place >= 0 && place < length ? signs[place] - '0' : 0;
        }

        /** Holds for a text without fault alone. */
        boolean beginsOrder(int place) {
            return place == 0 || sign(place - 1) == ';';
        }

        private static int digitsOf(char letter) {
            switch (letter) {
                case 'g':
                case 't':
                    return 3;
                case 'p':
                case 'f':
                    return 2;
                case 'h':
                    return 0;
                default:
                    return NONE;
            }
        }

        /** The index of the first fault, NONE if there is none. */
        int fault() {
            int due = LETTER_DUE;
            for (int i = 0; i < length; i++) {
                char sign = signs[i];
                if (due == LETTER_DUE) {
                    due = digitsOf(sign);
                    if (due == NONE) {
                        return i;
                    }
                } else if (due == SEPARATOR_DUE) {
                    if (sign != ';') {
                        return i;
                    }
                    due = LETTER_DUE;
                } else {
                    if (sign < '0' || sign > '9') {
                        return i;
                    }
                    due--;
                }
            }
            return due == SEPARATOR_DUE ? NONE : length;
        }
    }

    /**
     * The ways of a parcel. What is least comes first and decides: the hour of arrival, or the sum
     * of the fees; among ways alike in this, the least number of trips, or the least hour.
     */
    private static final class Ways {
        boolean found;
        int least;
        int thenLeast;
        /** Of the trips with which a way with the least begins, however it is in the second. */
        int smallestFirst;

        private final World world;
        private int destination;
        private boolean byFees;
        private final boolean[] looked = new boolean[TRIPS];
        private final boolean[] leads = new boolean[TRIPS];
        private final int[] leastBy = new int[TRIPS];
        private final int[] thenLeastBy = new int[TRIPS];

        Ways(World world) {
            this.world = world;
        }

        void search(int number, boolean cheapest) {
            byFees = cheapest;
            Parcel parcel = world.parcels[number];
            destination = parcel.destination;
            int town = world.townOf(parcel.holder);
            int hour = world.hour;
            int tripOn = world.tripOf(parcel.holder);
            if (tripOn != NONE) {
                town = world.trips[tripOn].to;
                hour = world.trips[tripOn].arrives;
            }
            if (town == destination) {
                found = true;
                least = byFees ? 0 : hour;
                thenLeast = byFees ? hour : 0;
                smallestFirst = NONE;
                return;
            }
            lookAtAllTrips();
            begin(town, hour);
        }

        /** The latest trips first: what can follow a trip leaves later than it. */
        private void lookAtAllTrips() {
            for (int i = 0; i < world.tripCount; i++) {
                looked[i] = false;
                leads[i] = false;
            }
            for (int i = 0; i < world.tripCount; i++) {
                lookAt(latestNotLookedAt());
            }
        }

        private int latestNotLookedAt() {
            int latest = 0;
            for (int i = 1; i < world.tripCount; i++) {
                boolean later = looked[latest] || world.trips[i].leaves > world.trips[latest].leaves;
                if (!looked[i] && later) {
                    latest = i;
                }
            }
            return latest;
        }

        private void lookAt(int number) {
            Trip trip = world.trips[number];
            looked[number] = true;
            if (trip.to == destination) {
                leads[number] = true;
                leastBy[number] = byFees ? trip.fee : trip.arrives;
                thenLeastBy[number] = byFees ? trip.arrives : 1;
                return;
            }
            int next = bestFrom(trip.to, trip.arrives);
            if (next != NONE) {
                leads[number] = true;
                leastBy[number] = leastBy[next] + (byFees ? trip.fee : 0);
                thenLeastBy[number] = thenLeastBy[next] + (byFees ? 0 : 1);
            }
        }

        private int bestFrom(int town, int hour) {
            int best = NONE;
            for (int i = 0; i < world.tripCount; i++) {
                boolean leadsFromHere = leads[i] && world.trips[i].canBeCaught(town, hour);
                if (leadsFromHere && (best == NONE || isBetter(i, best))) {
                    best = i;
                }
            }
            return best;
        }

        private boolean isBetter(int trip, int other) {
            if (leastBy[trip] != leastBy[other]) {
                return leastBy[trip] < leastBy[other];
            }
            return thenLeastBy[trip] < thenLeastBy[other];
        }

        private void begin(int town, int hour) {
            int best = bestFrom(town, hour);
            found = best != NONE;
            if (!found) {
                return;
            }
            least = leastBy[best];
            thenLeast = thenLeastBy[best];
            smallestFirst = best;
            for (int i = best - 1; i >= 0; i--) {
                if (leads[i] && world.trips[i].canBeCaught(town, hour) && leastBy[i] == least) {
                    smallestFirst = i;
                }
            }
        }
    }
}
