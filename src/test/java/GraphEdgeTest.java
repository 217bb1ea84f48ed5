/** The boundary cases of promises 14 to 20: the graph. */
public final class GraphEdgeTest extends PromiseCases {
    private static final long ALL_60 = (1L << 60) - 1;

    private GraphEdgeTest() {
    }

    public static void main(String[] args) throws IllegalAccessException {
        new GraphEdgeTest().runAll();
    }

    /** Four events that have no parents, 0 to 3 by the authors 0 to 3, and author 1 knows them all. */
    private Asked fourBeginnings() {
        return asked().after("insert 0 0 0; insert 1 0 1; insert 2 0 2; insert 3 0 3; learn 1 0; learn 1 2; learn 1 3");
    }

    // ---- promise 14: authorOf

    void promise14EventsAre0ToTheLast() {
        asked().after("insert 3 0 0; insert 1 0 0; insert 0 0 0").due("authorOf 0", 3).due("authorOf 1", 1)
            .due("authorOf 2", 0);
    }

    void promise14NoOtherEvent() {
        asked().dueWithoutEvent("authorOf #", 0).after("insert 3 0 0").dueWithoutEvent("authorOf #", 1);
        asked().row(2, 60).due("authorOf 0; authorOf 59", 2).dueWithoutEvent("authorOf #", 60);
    }

    void promise14WhoLearnsAnEventIsNotItsAuthor() {
        asked().after("insert 2 0 0; learn 3 2; delete 3 0; learn 2 3").due("authorOf 0", 2).due("authorOf 1", 3);
    }

    // ---- promise 15: parents

    void promise15EventsAre0ToTheLast() {
        asked().row(0, 3).due("parents 0", 0).due("parents 1", 1).due("parents 2", 2);
    }

    void promise15NoOtherEvent() {
        asked().dueWithoutEvent("parents #", 0).row(0, 3).dueWithoutEvent("parents #", 3);
        asked().row(0, 60).dueWithoutEvent("parents #", 60);
    }

    void promise15WhoKnowsNothingMakesAnEventWithoutParents() {
        asked().row(0, 3).after("insert 1 0 0; insert 2 0 0; insert 3 0 0").due("parents 3; parents 4; parents 5", 0);
    }

    void promise15AnEventMayHaveFourParents() {
        fourBeginnings().after("insert 1 0 4").due("parents 4", 15).after("delete 1 0").due("parents 5", 16);
    }

    void promise15FourParentsOfTheLastEvent() {
        Asked x = asked();
        for (int event = 0; event < 59; event++) {
            x.after("insert " + event % 4 + " 0 0");
        }
        x.after("learn 0 1; learn 0 2; learn 0 3; delete 0 0").due("parents 59", 15L << 55).due("parents 58", 1L << 54);
    }

    void promise15AParentOfAKnownEventIsNone() {
        asked().row(0, 2).after("learn 1 0; insert 1 0 0").due("parents 2", 2);
        asked().row(0, 2).after("learnEvent 1 0; insert 1 0 0; learn 1 0; insert 1 0 0").due("parents 3", 6);
    }

    void promise15AParentOfUnknownEventsAloneIsOne() {
        asked().row(0, 3).after("learnEvent 1 0; insert 1 0 0").due("parents 3", 1).due("parents 1", 1);
    }

    void promise15WhatIsLearnedLaterChangesNoParents() {
        fourBeginnings().due("parents 1", 0).after("insert 1 0 0; learn 0 1; insert 0 0 0").due("parents 4", 15)
            .due("parents 1; parents 0", 0);
    }

    void promise15SetsReachBit58() {
        asked().row(0, 60).due("parents 31", 1L << 30).due("parents 32", 1L << 31).due("parents 33", 1L << 32)
            .due("parents 59", 1L << 58);
    }

    // ---- promise 16: isLater

    void promise16EventsAre0ToTheLast() {
        asked().row(0, 3).due("isLater 2 0; isLater 1 0; isLater 2 1", true).due("isLater 0 2; isLater 0 1", false);
    }

    void promise16NoOtherEvent() {
        asked().dueWithoutEvent("isLater # #", 0).row(0, 3).dueWithoutEvent("isLater # 0", 3)
            .dueWithoutEvent("isLater # #", 3);
        asked().row(0, 60).dueWithoutEvent("isLater # 0", 60);
    }

    void promise16NoOtherOther() {
        asked().row(0, 3).dueWithoutEvent("isLater 0 #", 3).dueWithoutEvent("isLater 2 #", 3);
        asked().row(0, 60).dueWithoutEvent("isLater 59 #", 60);
    }

    void promise16AnEventIsNotLaterThanItself() {
        asked().row(0, 3).due("isLater 0 0; isLater 1 1; isLater 2 2", false);
        asked().row(0, 60).due("isLater 31 31; isLater 32 32; isLater 59 59", false);
    }

    void promise16AnEventWithAGreaterNumberMayBeConcurrent() {
        fourBeginnings().due("isLater 3 0; isLater 0 3; isLater 1 0; isLater 0 1", false);
        asked().row(0, 1).after("learn 1 0; insert 0 0 0; insert 1 0 0").due("isLater 2 1; isLater 1 2", false)
            .due("isLater 2 0; isLater 1 0", true);
    }

    void promise16AncestorsOfAllParentsAreAncestors() {
        fourBeginnings().after("insert 1 0 4; learn 2 1; delete 2 0")
            .due("isLater 5 0; isLater 5 1; isLater 5 2; isLater 5 3; isLater 5 4", true)
            .due("isLater 0 5; isLater 3 5; isLater 4 5", false);
    }

    void promise16TheFirstIsAnAncestorOfThe60th() {
        asked().row(0, 60).due("isLater 59 0; isLater 59 58; isLater 32 31; isLater 33 0; isLater 59 32", true)
            .due("isLater 0 59; isLater 58 59; isLater 31 32; isLater 0 33; isLater 32 59", false);
    }

    void promise16WhatItsAuthorLearnsLaterIsNoAncestor() {
        asked().after("insert 0 0 0; insert 1 0 0; learn 1 0").due("isLater 1 0", false).after("insert 1 0 0")
            .due("isLater 2 0; isLater 2 1", true);
    }

    // ---- promise 17: version

    void promise17AuthorsAre0To3() {
        asked().after("insert 0 0 0; insert 1 0 1; insert 2 0 2; insert 3 0 3").due("version 0", 1).due("version 1", 2)
            .due("version 2", 4).due("version 3", 8);
    }

    void promise17NoOtherAuthor() {
        asked().dueWithoutAuthor("version #").row(0, 1).dueWithoutAuthor("version #");
    }

    void promise17WhoKnowsNothingHasTheEmptyVersion() {
        asked().row(0, 60).due("version 1; version 2; version 3", 0);
    }

    void promise17TheAuthorKnowsTheEventHeMakes() {
        asked().after("insert 2 0 0").due("version 2", 1).after("delete 2 0").due("version 2", 3).due("version 1", 0);
    }

    void promise17TheGreatestVersionHasAll60() {
        asked().row(0, 60).due("version 0", ALL_60);
        asked().fullOfFourRows().after("learn 3 0; learn 3 1; learn 3 2").due("version 3", ALL_60)
            .due("version 0", ALL_60 / 15);
    }

    // ---- promise 18: heads

    void promise18AuthorsAre0To3() {
        asked().after("insert 0 0 0; insert 1 0 1; insert 2 0 2; insert 3 0 3").due("heads 0", 1).due("heads 1", 2)
            .due("heads 2", 4).due("heads 3", 8);
    }

    void promise18NoOtherAuthor() {
        asked().dueWithoutAuthor("heads #").row(0, 1).dueWithoutAuthor("heads #");
    }

    void promise18WhoKnowsNothingHasNone() {
        asked().row(0, 3).due("heads 1; heads 2; heads 3", 0);
    }

    void promise18OneEventIsTheHead() {
        asked().row(0, 1).due("heads 0", 1).after("learn 1 0").due("heads 1", 1);
    }

    void promise18FourHeadsAtMost() {
        fourBeginnings().due("heads 1", 15).due("heads 0", 1).after("insert 1 0 0").due("heads 1", 16);
    }

    void promise18AParentOfUnknownEventsAloneIsAHead() {
        asked().row(0, 3).after("learnEvent 1 1").due("heads 1", 2).due("heads 0", 4);
    }

    void promise18AHeadThatIsAnAncestorOfALearnedEventIsNoneAnyMore() {
        asked().row(0, 2).after("learnEvent 1 0").due("heads 1", 1).after("learn 1 0").due("heads 1", 2);
    }

    void promise18TheFullGraph() {
        asked().row(0, 60).due("heads 0", 1L << 59).after("learnEvent 1 31; learnEvent 2 32").due("heads 1", 1L << 31)
            .due("heads 2", 1L << 32);
        asked().fullOfFourRows().after("learn 2 0; learn 2 1; learn 2 3").due("heads 2", 15L << 56);
    }

    // ---- promise 19: commonHeads

    void promise19AuthorsAre0To3() {
        Asked x = asked().row(0, 1).after("learn 1 0; learn 2 0; learn 3 0");
        for (int author = 0; author < 4; author++) {
            x.due("commonHeads " + author + " 0; commonHeads 0 " + author + "; commonHeads " + author + " 3", 1);
        }
    }

    void promise19NoOtherAuthor() {
        asked().dueWithoutAuthor("commonHeads # 0").row(0, 1).dueWithoutAuthor("commonHeads # 0")
            .dueWithoutAuthor("commonHeads # #");
    }

    void promise19NoOtherOther() {
        asked().dueWithoutAuthor("commonHeads 0 #").row(0, 1).dueWithoutAuthor("commonHeads 0 #")
            .dueWithoutAuthor("commonHeads 3 #");
    }

    void promise19NothingInCommonHasNone() {
        asked().due("commonHeads 0 1; commonHeads 2 2", 0).after("insert 0 0 0; insert 1 0 0")
            .due("commonHeads 0 1; commonHeads 1 0; commonHeads 0 3; commonHeads 3 1", 0);
    }

    void promise19OfOneselfTheyAreTheHeads() {
        fourBeginnings().due("commonHeads 1 1", 15).due("commonHeads 0 0", 1).due("commonHeads 3 3", 8);
    }

    void promise19OfOneWhoKnowsAllTheyAreTheOthersHeads() {
        asked().row(0, 3).after("learnEvent 1 1").due("commonHeads 0 1; commonHeads 1 0", 2);
    }

    void promise19AHeadOfBothMayBeAHeadOfNeither() {
        asked().row(0, 2).after("learn 1 0; insert 0 0 0; insert 1 0 0").due("commonHeads 0 1; commonHeads 1 0", 2)
            .due("heads 0", 4).due("heads 1", 8);
    }

    void promise19FourAtMost() {
        fourBeginnings().after("learn 2 1; insert 1 0 0; insert 2 0 0").due("commonHeads 1 2; commonHeads 2 1", 15)
            .after("learn 1 2; learn 2 1").due("commonHeads 1 2", 48);
    }

    void promise19TheFullGraph() {
        asked().row(0, 60).after("learn 3 0; learnEvent 1 32; learnEvent 2 31").due("commonHeads 0 3", 1L << 59)
            .due("commonHeads 0 1; commonHeads 1 3", 1L << 32).due("commonHeads 1 2; commonHeads 2 0", 1L << 31);
    }

    // ---- promise 20: concurrent

    void promise20AuthorsAre0To3() {
        fourBeginnings().due("concurrent 0; concurrent 2; concurrent 3", 0).due("concurrent 1", 6)
            .after("learn 0 2; learn 3 0").due("concurrent 0", 1).due("concurrent 3", 3);
    }

    void promise20NoOtherAuthor() {
        asked().dueWithoutAuthor("concurrent #").row(0, 1).dueWithoutAuthor("concurrent #");
    }

    void promise20NoPairOfNoneOrOneEvent() {
        asked().due("concurrent 0", 0).row(0, 1).due("concurrent 0; concurrent 1", 0);
    }

    void promise20TwoEventsAreOnePairAtMost() {
        asked().row(0, 2).due("concurrent 0", 0);
        asked().row(0, 1).row(1, 1).after("learn 0 1").due("concurrent 0", 1).due("concurrent 1", 0);
    }

    void promise20OnlyPairsThatTheAuthorKnows() {
        asked().row(0, 1).row(1, 3).after("learnEvent 0 1").due("concurrent 0", 1).after("learnEvent 0 3")
            .due("concurrent 0", 3).due("concurrent 1", 0);
    }

    void promise20AMergeAddsNoPair() {
        fourBeginnings().after("insert 1 0 0").due("concurrent 1", 6).after("delete 1 0").due("concurrent 1", 6);
    }

    void promise20ARowOf60HasNone() {
        asked().row(0, 60).due("concurrent 0", 0);
    }

    void promise20FourRowsOf15HaveTheMost() {
        // 60 * 59 / 2 pairs, less 4 * (15 * 14 / 2) in the rows.
        asked().fullOfFourRows().after("learn 0 1; learn 0 2; learn 0 3").due("concurrent 0", 1350)
            .due("concurrent 1", 0);
    }
}
