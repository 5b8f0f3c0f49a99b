/** The acts that read the tape as a name. */
enum Reading {
    PUT, UNPUT, NUMBER, BELOW, NEXT, PRIOR, PREFIX_FIRST, PREFIX_LAST, LONGEST, WITNESS, CHECK;

    int ask(Shelf x, int p) {
        switch (this) {
            case PUT: return x.put(p, 77);
            case UNPUT: return x.unput(p);
            case NUMBER: return x.number(p);
            case BELOW: return x.below(p);
            case NEXT: return x.next(p);
            case PRIOR: return x.prior(p);
            case PREFIX_FIRST: return x.prefix(p, false);
            case PREFIX_LAST: return x.prefix(p, true);
            case LONGEST: return x.longest(p);
            case WITNESS: return x.witness(p);
            default: return x.check(p);
        }
    }

    boolean isForDrafts() {
        return this == PUT || this == UNPUT;
    }

    boolean isForForkedAlone() {
        return this == WITNESS || this == CHECK;
    }

    boolean isFor(int kind) {
        if (isForDrafts()) {
            return kind == 6;
        }
        return isForForkedAlone() ? kind == 2 : kind >= 1 && kind <= 5;
    }
}
