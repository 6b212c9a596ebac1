/** One call with its arguments, to be made on the class or on the model. */
record Call(Kind kind, int first, int second, long up, long down, long t, boolean flag) {
    enum Kind {
        CAR, CAMPAIGN, WAVE, DUE, REPORT, SHARE, RULE, STATE, STOP, CONSENT, FAILED, IN, ORDER
    }

    static Call of(Kind kind, int first, int second) {
        return new Call(kind, first, second, 0, 0, 0, false);
    }

    static Call of(Kind kind, int first, int second, boolean flag) {
        return new Call(kind, first, second, 0, 0, 0, flag);
    }

    static Call car(long number, int edition) {
        return new Call(Kind.CAR, 0, edition, number, 0, 0, false);
    }

    static Call withShare(Kind kind, int campaign, long up, long down, long t) {
        return new Call(kind, campaign, 0, up, down, t, false);
    }

    static Call due(int car, long t) {
        return new Call(Kind.DUE, car, 0, 0, 0, t, false);
    }

    long on(FleetWaves fleet) {
        return switch (kind) {
            case CAR -> fleet.car(up, second);
            case CAMPAIGN -> fleet.campaign(first, second);
            case WAVE -> fleet.wave(first, up, down, t);
            case DUE -> fleet.due(first, t);
            case REPORT -> fleet.report(first, second, flag);
            case SHARE -> Check.share(fleet, first, second);
            case RULE -> fleet.rule(first, up, down);
            case STATE -> fleet.state(first);
            case STOP -> fleet.stop(first);
            case CONSENT -> fleet.consent(first, flag);
            case FAILED -> fleet.failed(first);
            case IN -> fleet.in(first, second);
            case ORDER -> fleet.order(first, second);
        };
    }

    long on(Model model) {
        return switch (kind) {
            case CAR -> model.car(up, second);
            case CAMPAIGN -> model.campaign(first, second);
            case WAVE -> model.wave(first, up, down, t);
            case DUE -> model.due(first, t);
            case REPORT -> model.report(first, second, flag);
            case SHARE -> model.share(first, second);
            case RULE -> model.rule(first, up, down);
            case STATE -> model.state(first);
            case STOP -> model.stop(first);
            case CONSENT -> model.consent(first, flag);
            case FAILED -> model.failed(first);
            case IN -> model.in(first, second);
            case ORDER -> model.order(first, second);
        };
    }

    /** Whether the call, having answered this, has to have left everything as it was. */
    boolean changesNothing(long answer) {
        return switch (kind) {
            case SHARE, STATE, FAILED, IN -> true;
            case CAMPAIGN, ORDER -> answer <= 0;
            default -> answer < 0;
        };
    }
}
