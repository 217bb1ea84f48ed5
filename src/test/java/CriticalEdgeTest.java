/** The boundary cases of promises 21 to 23: critical events, what has to be replayed, and runs. */
public final class CriticalEdgeTest extends PromiseCases {
    private static final long ALL_60 = (1L << 60) - 1;

    private CriticalEdgeTest() {
    }

    public static void main(String[] args) throws IllegalAccessException {
        new CriticalEdgeTest().runAll();
    }

    /** Event 0, behind it 1 and 2 beside each other, behind both 3, all known to author 0. */
    private Asked forkAndMerge() {
        return asked().row(0, 1).after("learn 1 0; insert 0 0 1; insert 1 0 2; learn 0 1; insert 0 0 3");
    }

    // ---- promise 21: critical

    void promise21AuthorsAre0To3() {
        asked().after("insert 0 0 0; insert 1 0 1; insert 2 0 2; insert 3 0 3").due("critical 0", 1)
            .due("critical 1", 2).due("critical 2", 4).due("critical 3", 8);
    }

    void promise21NoOtherAuthor() {
        asked().dueWithoutAuthor("critical #").row(0, 1).dueWithoutAuthor("critical #");
    }

    void promise21WhoKnowsNothingHasNone() {
        asked().due("critical 0", 0).row(0, 3).due("critical 1; critical 2; critical 3", 0);
    }

    void promise21OneEventAloneIsCritical() {
        asked().after("insert 2 0 0").due("critical 2", 1).due("critical 0", 0).after("learn 0 2").due("critical 0", 1);
    }

    void promise21OfTwoConcurrentOnesNoneIsCritical() {
        asked().row(0, 1).row(1, 1).due("critical 0", 1).due("critical 1", 2).after("learn 0 1").due("critical 0", 0)
            .due("critical 1", 2);
    }

    void promise21AllOfARowAreCritical() {
        asked().row(0, 3).due("critical 0", 7).after("delete 0 0").due("critical 0", 15);
    }

    void promise21WhatIsAheadOfAForkAndBehindItIsCritical() {
        forkAndMerge().due("critical 0", 9).due("critical 1", 5);
    }

    void promise21EventsThatTheAuthorDoesNotKnowAreNone() {
        forkAndMerge().after("learnEvent 2 0; learnEvent 3 1").due("critical 2", 1).due("critical 3", 3);
    }

    void promise21EventsThatTheAuthorDoesNotKnowMakeNoneUncritical() {
        asked().row(0, 3).row(1, 1).due("critical 0", 7).due("critical 1", 8).after("learn 0 1").due("critical 0", 0)
            .due("critical 1", 8);
    }

    void promise21NoneIsCriticalBesideAnEventWithoutParents() {
        forkAndMerge().row(2, 1).after("learn 0 2").due("critical 0", 0).after("insert 0 0 0").due("critical 0", 32);
    }

    void promise21TheFullGraph() {
        asked().row(0, 60).due("critical 0", ALL_60);
        asked().fullOfFourRows().due("critical 3", ALL_60 / 15 << 3).after("learn 3 0; learn 3 1; learn 3 2")
            .due("critical 3", 0);
    }

    void promise21SetsReachBit59() {
        Asked x = asked().row(0, 31).after("learn 1 0; insert 0 0 0; insert 1 0 0; learn 0 1")
            .due("critical 0", (1L << 31) - 1);
        x.after("insert 0 0 0").due("critical 0", (1L << 31) - 1 | 1L << 33);
        Asked y = asked();
        for (int event = 0; event < 59; event++) {
            y.after("insert " + event % 2 + " 0 0");
        }
        y.after("learn 0 1; insert 0 0 0").due("critical 0", 1L << 59);
    }

    // ---- promise 22: toReplay

    void promise22AuthorsAre0To3() {
        Asked x = asked().after("insert 0 0 0; insert 1 0 1; insert 2 0 2; insert 3 0 3");
        x.after("learn 3 0; learn 0 3; learn 0 1");
        x.due("toReplay 0", 3).due("toReplay 1; toReplay 2", 0).due("toReplay 3", 2);
    }

    void promise22NoOtherAuthor() {
        asked().dueWithoutAuthor("toReplay #").row(0, 1).dueWithoutAuthor("toReplay #");
    }

    void promise22WhoKnowsNothingReplaysNothing() {
        asked().due("toReplay 0", 0).row(0, 3).due("toReplay 1; toReplay 2; toReplay 3", 0);
    }

    void promise22OneEventAloneIsNotReplayed() {
        asked().row(0, 1).due("toReplay 0", 0);
    }

    void promise22AllAreReplayedIfNoneIsCritical() {
        asked().row(0, 1).row(1, 1).after("learn 0 1").due("toReplay 0", 2).due("toReplay 1", 0);
        asked().row(0, 3).row(1, 1).after("learn 1 0").due("toReplay 1", 4);
    }

    void promise22TheCriticalEventItselfIsNotReplayed() {
        asked().row(0, 1).after("learn 1 0; insert 0 0 1; insert 1 0 2; learn 0 1").due("critical 0", 1)
            .due("toReplay 0", 2);
    }

    void promise22TheGreatestOfTheCriticalEventsCounts() {
        forkAndMerge().due("critical 0", 9).due("toReplay 0", 0);
        asked().row(0, 2).after("learn 1 0; insert 0 0 1; insert 1 0 2; learn 0 1").due("critical 0", 3)
            .due("toReplay 0", 2);
        forkAndMerge().after("learn 1 0; insert 0 0 0; insert 1 0 0; insert 1 0 0; learn 0 1").due("critical 0", 9)
            .due("toReplay 0", 3);
    }

    void promise22OnlyEventsThatTheAuthorKnowsAreReplayed() {
        asked().row(0, 1).after("learn 1 0").row(0, 3).row(1, 3).due("toReplay 0; toReplay 1", 0)
            .after("learnEvent 0 4").due("toReplay 0", 4).due("toReplay 1", 0);
    }

    void promise22TheFullGraph() {
        asked().row(0, 60).due("toReplay 0", 0);
        asked().fullOfFourRows().after("learn 0 1; learn 0 2; learn 0 3").due("toReplay 0", 60).due("toReplay 1", 0);
        Asked x = asked().row(0, 1).after("learn 1 0");
        for (int event = 1; event < 60; event++) {
            x.after("insert " + event % 2 + " 0 0");
        }
        x.after("learn 0 1").due("critical 0", 1).due("toReplay 0", 59);
    }

    void promise22TheCriticalEventMayBeTheOneWithNumber59() {
        Asked x = asked();
        for (int event = 0; event < 59; event++) {
            x.after("insert " + event % 2 + " 0 0");
        }
        x.after("learn 0 1").due("toReplay 0", 59).after("delete 0 0").due("toReplay 0", 0);
    }

    // ---- promise 23: runs

    void promise23AuthorsAre0To3() {
        Asked x = asked().after("insert 0 0 0; insert 1 0 1; insert 2 0 2; insert 3 0 3; insert 3 0 4; learn 0 3");
        x.due("runs 0", 3).due("runs 1; runs 2", 1).due("runs 3", 2);
    }

    void promise23NoOtherAuthor() {
        asked().dueWithoutAuthor("runs #").row(0, 1).dueWithoutAuthor("runs #");
    }

    void promise23WhoKnowsNothingHasNone() {
        asked().due("runs 0", 0).row(0, 3).due("runs 1; runs 2; runs 3", 0);
    }

    void promise23OneEventIsARun() {
        asked().row(0, 1).due("runs 0", 1).after("delete 0 0").due("runs 0", 2);
    }

    void promise23ARunIsAsLongAsItCanBe() {
        asked().row(0, 2).due("runs 0", 1).type(0, 2, "cd").due("runs 0", 1);
        asked().row(0, 60).due("runs 0", 1);
    }

    void promise23SixtyRunsOfOneEvent() {
        Asked x = asked();
        for (int event = 0; event < 60; event++) {
            x.after("insert 0 0 0");
        }
        x.due("runs 0", 60).after("learnEvent 1 58").due("runs 1", 59);
    }

    void promise23ADeleteIsARunOfItsOwn() {
        asked().row(0, 3).after("delete 0 2; delete 0 1").due("runs 0", 3).after("delete 0 0").due("runs 0", 4);
    }

    void promise23AnInsertBehindADeleteBeginsARun() {
        asked().row(0, 3).after("delete 0 0").type(0, 2, "yz").due("runs 0", 3);
        asked().row(0, 1).after("delete 0 0; insert 0 0 1").due("runs 0", 3);
    }

    void promise23AnInsertAtTheBeginningBeginsARun() {
        asked().row(0, 2).type(0, 0, "yz").due("runs 0", 2);
    }

    void promise23AnInsertAtAnotherLetterBeginsARun() {
        asked().row(0, 3).type(0, 2, "yz").due("runs 0", 2).type(0, 1, "x").due("runs 0", 3);
    }

    void promise23AnInsertOfAnotherAuthorBeginsARun() {
        asked().row(0, 2).after("learn 1 0").type(1, 2, "yz").due("runs 1", 2).due("runs 0", 1)
            .after("learn 0 1; insert 0 4 0").due("runs 0", 3);
    }

    void promise23AnInsertWithTwoParentsBeginsARun() {
        // It hangs at the letter of its author's last event, but the other parent is event 2.
        asked().row(0, 2).row(2, 1).after("learn 0 2; insert 0 3 0").due("heads 0", 8).due("parents 3", 6)
            .due("runs 0", 3);
    }

    void promise23AnInsertWithAnotherOnlyParentBeginsARun() {
        // Event 2 hangs at the letter of event 0, of the same author; its parent is event 1.
        asked().row(0, 1).after("learn 1 0; insert 1 1 1; learn 0 1; insert 0 1 2").due("parents 2", 2)
            .due("runs 0", 3);
    }

    void promise23ARunMayBeginAnywhere() {
        asked().row(0, 2).after("delete 0 0; learn 1 0").type(1, 1, "yz").due("runs 1", 3);
        asked().row(0, 1).row(1, 1).after("learn 2 0; learn 2 1").type(2, 1, "yz").due("runs 2", 3);
    }

    void promise23OfARunThatIsKnownInPartThePartIsOne() {
        asked().row(0, 5).after("learnEvent 1 0; learnEvent 2 3").due("runs 1; runs 2; runs 0", 1);
    }

    void promise23AForkDoesNotEndARun() {
        asked().row(0, 2).after("learn 1 0").type(1, 2, "yz").type(0, 2, "cd").after("learn 2 0; learn 2 1")
            .due("runs 2", 2).due("runs 0", 1).due("runs 1", 2);
    }

    void promise23ALaterDeleteDoesNotSplitARun() {
        asked().row(0, 3).after("delete 0 1").due("runs 0", 2).dueText(0, "ac");
    }

    void promise23NumbersBetweenDoNotSplitARun() {
        asked().fullOfFourRows().due("runs 0; runs 3", 1).after("learn 0 1; learn 0 2; learn 0 3").due("runs 0", 4);
    }
}
