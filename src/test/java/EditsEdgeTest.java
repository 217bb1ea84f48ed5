/** The boundary cases of promises 1 to 6: a new object, edits and exchange. */
public final class EditsEdgeTest extends PromiseCases {
    private EditsEdgeTest() {
    }

    public static void main(String[] args) throws IllegalAccessException {
        new EditsEdgeTest().runAll();
    }

    // ---- promise 1: a new object

    void promise1BeginsWithoutEvents() {
        asked().due("events", 0);
    }

    void promise1NobodyKnowsAnEventAtFirst() {
        Asked x = asked();
        for (int author = 0; author < 4; author++) {
            x.due("version " + author + "; heads " + author + "; critical " + author, 0);
            x.due("concurrent " + author + "; toReplay " + author + "; runs " + author, 0);
            for (int other = 0; other < 4; other++) {
                x.due("learn " + author + " " + other, 0);
                x.due("commonHeads " + author + " " + other, 0);
            }
        }
    }

    void promise1TextsAreEmptyAtFirst() {
        Asked x = asked();
        for (int author = 0; author < 4; author++) {
            x.dueText(author, "");
            x.dueWithoutPlace("eventAt " + author + " #", 0);
            x.due("lettersBy " + author + " 0; lettersBy " + author + " 3", 0);
        }
    }

    void promise1ThereIsNoEvent0AtFirst() {
        Asked x = asked();
        x.dueWithoutEvent("lengthOf #", 0);
        x.dueWithoutEvent("letterOf # 0", 0);
        x.dueWithoutEvent("authorOf #", 0);
        x.dueWithoutEvent("parents #", 0);
        x.dueWithoutEvent("isLater # 0", 0);
        x.dueWithoutEvent("learnEvent 0 #", 0);
        x.due("events", 0);
    }

    void promise1NoneIsMinusOne() {
        check().same(running(), EditGraph.NONE, -1);
    }

    void promise1AnObjectKnowsNothingOfAnother() {
        Asked early = asked();
        asked().row(0, 60);
        early.due("events; version 0; length 0", 0).due("insert 0 0 0", 0);
        asked().due("events; version 0; length 0", 0).due("insert 0 0 0", 0);
    }

    // ---- promise 2: insert

    void promise2AuthorsAre0To3() {
        for (int author = 0; author < 4; author++) {
            asked().due("insert " + author + " 0 7", 0).due("authorOf 0", author).dueText(author, "h");
        }
    }

    void promise2NoOtherAuthor() {
        asked().row(0, 2).dueWithoutAuthor("insert # 0 0").due("insert 0 2 2", 2);
    }

    void promise2LeastPlaceHangsAtTheBeginning() {
        asked().type(0, 0, "ab").due("insert 0 0 2", 2).dueText(0, "cab").due("insert 0 0 3", 3).dueText(0, "dcab");
    }

    void promise2GreatestPlaceHangsAtTheLastLetter() {
        Asked x = asked().type(0, 0, "ab").after("learn 1 0").due("insert 0 2 2", 2).dueText(0, "abc");
        // What author 1 puts ahead of the b leaves the c behind the b, where it hangs.
        x.after("insert 1 1 3; learn 0 1").dueText(0, "adbc");
    }

    void promise2APlaceBetweenHangsAtTheLetterAheadOfIt() {
        Asked x = asked().type(0, 0, "ab").after("learn 1 0").due("insert 0 1 2", 2).dueText(0, "acb");
        x.due("insert 1 1 3", 3).after("learn 0 1").dueText(0, "adcb");
    }

    void promise2NoPlaceBelow0() {
        asked().type(0, 0, "ab").due("insert 0 -1 0; insert 0 min 0", Call.INDEX).due("insert 0 0 2", 2);
    }

    void promise2NoPlaceAboveTheLength() {
        asked().type(0, 0, "ab").due("insert 0 3 0; insert 0 max 0", Call.INDEX).due("insert 0 2 2", 2);
    }

    void promise2AnEmptyTextHasPlace0Alone() {
        asked().due("insert 2 1 0; insert 2 -1 0; insert 2 min 0; insert 2 max 0", Call.INDEX).due("insert 2 0 0", 0);
    }

    void promise2AnEmptiedTextHasPlace0Alone() {
        Asked x = asked().type(0, 0, "ab").after("delete 0 0; delete 0 0");
        x.due("insert 0 1 0; insert 0 2 0; insert 0 -1 0", Call.INDEX).due("insert 0 0 2", 4).dueText(0, "c");
    }

    void promise2ThePlaceIsOneOfTheAuthorsOwnText() {
        Asked x = asked().type(0, 0, "abc").due("insert 1 1 0", Call.INDEX).after("learnEvent 1 1");
        x.due("insert 1 3 0", Call.INDEX).due("insert 1 2 3", 3).dueText(1, "abd").dueText(0, "abc");
    }

    void promise2DeletedLettersAreNoPlaces() {
        Asked x = asked().type(0, 0, "abc").after("learn 1 0; delete 0 1");
        x.due("insert 0 3 0", Call.INDEX).due("insert 1 4 0", Call.INDEX);
        x.due("insert 0 2 3", 4).dueText(0, "acd").due("insert 1 3 4", 5).dueText(1, "abce");
    }

    void promise2BehindADeletedLetterHangsAtTheOneThatStands() {
        Asked x = asked().type(0, 0, "abc").after("learn 1 0; delete 0 1; insert 0 1 23; insert 1 2 24; learn 0 1");
        // The x hangs at the a, so it comes ahead of the y, which hangs at the b.
        x.dueText(0, "axyc").dueText(1, "abyc").dueTextOf(4, "axc").after("learn 1 0").dueText(1, "axyc");
    }

    void promise2AheadOfAllThoughTheFirstLetterIsDeleted() {
        Asked x = asked().type(0, 0, "ab").after("learn 1 0; delete 0 0; insert 0 0 23; insert 1 1 24; learn 0 1");
        // The x hangs at the beginning and is newer than the a; the y hangs at the a that is gone.
        x.dueText(0, "xyb");
    }

    void promise2LettersAre0To25() {
        asked().due("insert 0 0 0", 0).due("insert 0 1 25", 1).due("letterAt 0 0", 0).due("letterAt 0 1", 25);
    }

    void promise2NoOtherLetter() {
        asked().due("insert 0 0 -1; insert 0 0 26; insert 0 0 min; insert 0 0 max", Call.ARGUMENT)
            .due("insert 0 0 25", 0);
    }

    void promise2ReturnsTheNumbersFrom0On() {
        asked().due("insert 3 0 0", 0).due("insert 0 0 0", 1).due("delete 3 0", 2).due("insert 3 0 0", 3);
    }

    void promise2The60thEventIsTaken() {
        asked().row(0, 59).due("events", 59).due("insert 0 59 7", 59).due("events", 60).due("letterAt 0 59", 7);
    }

    void promise2The61stEventIsRefused() {
        Asked x = asked().row(0, 60).due("insert 0 0 0; insert 0 60 25", Call.STATE);
        x.due("insert 1 0 0; insert 2 0 0; insert 3 0 0", Call.STATE).due("events", 60).due("length 0", 60);
    }

    void promise2TheLimitCountsDeletesAndAllAuthors() {
        Asked x = asked();
        for (int pair = 0; pair < 30; pair++) {
            x.due("insert " + pair % 4 + " 0 0", 2 * pair).due("delete " + pair % 4 + " 0", 2 * pair + 1);
        }
        x.due("length 0; length 1; length 2; length 3", 0);
        x.due("insert 0 0 0; insert 1 0 0; insert 2 0 0; insert 3 0 0", Call.STATE);
    }

    void promise2NoAuthorComesAheadOfTheOthers() {
        asked().dueWithoutAuthor("insert # 9 0").dueWithoutAuthor("insert # 0 26").dueWithoutAuthor("insert # -1 -1");
        asked().row(0, 60).dueWithoutAuthor("insert # 0 0").dueWithoutAuthor("insert # 61 26");
    }

    void promise2NoPlaceComesAheadOfNoLetter() {
        asked().type(0, 0, "a").due("insert 0 2 26; insert 0 -1 26; insert 0 2 -1; insert 0 min min", Call.INDEX);
    }

    void promise2NoPlaceComesAheadOfTheFullGraph() {
        asked().row(0, 60).due("insert 0 61 0; insert 0 -1 0; insert 1 1 0; insert 0 61 26", Call.INDEX);
    }

    void promise2NoLetterComesAheadOfTheFullGraph() {
        asked().row(0, 60).due("insert 0 60 26; insert 0 0 -1; insert 1 0 max; insert 1 0 min", Call.ARGUMENT);
    }

    // ---- promise 3: delete

    void promise3AuthorsAre0To3() {
        for (int author = 0; author < 4; author++) {
            Asked x = asked().after("insert " + author + " 0 7").due("delete " + author + " 0", 1);
            x.due("authorOf 1", author).dueText(author, "");
        }
    }

    void promise3NoOtherAuthor() {
        asked().row(0, 2).dueWithoutAuthor("delete # 0").due("delete 0 0", 2);
    }

    void promise3LeastPlaceIsTheFirstLetter() {
        asked().type(0, 0, "abc").due("delete 0 0", 3).dueText(0, "bc");
    }

    void promise3GreatestPlaceIsTheLastLetter() {
        asked().type(0, 0, "abc").due("delete 0 2", 3).dueText(0, "ab");
    }

    void promise3NoPlaceBelow0() {
        asked().type(0, 0, "ab").due("delete 0 -1; delete 0 min", Call.INDEX).dueText(0, "ab");
    }

    void promise3NoPlaceFromTheLengthOn() {
        asked().type(0, 0, "ab").due("delete 0 2; delete 0 3; delete 0 max", Call.INDEX).dueText(0, "ab");
    }

    void promise3AnEmptyTextHasNoPlace() {
        asked().due("delete 0 0; delete 0 -1; delete 0 1", Call.INDEX).due("events", 0);
        asked().type(0, 0, "ab").due("delete 1 0; delete 1 -1", Call.INDEX).due("events", 2);
    }

    void promise3AnEmptiedTextHasNoPlace() {
        asked().type(0, 0, "a").due("delete 0 0", 1).due("delete 0 0", Call.INDEX).due("events", 2);
    }

    void promise3ThePlaceIsOneOfTheAuthorsOwnText() {
        Asked x = asked().type(0, 0, "abc").after("learnEvent 1 1").due("delete 1 2", Call.INDEX);
        x.due("delete 1 1", 3).dueText(1, "a").dueText(0, "abc");
    }

    void promise3ALetterGoesFromTheTextsOfThoseWhoKnowTheDelete() {
        Asked x = asked().type(0, 0, "ab").after("learn 1 0; learn 2 0; delete 1 0");
        x.dueText(1, "b").dueText(0, "ab").after("learn 2 1").dueText(2, "b").dueText(0, "ab");
    }

    void promise3TwoDeletesOfALetterTakeItAwayOnce() {
        Asked x = asked().type(0, 0, "abc").after("learn 1 0").due("delete 0 1", 3).due("delete 1 1", 4);
        x.due("learn 0 1", 1).dueText(0, "ac").due("concurrent 0", 1).due("delete 0 1", 5).dueText(0, "a");
    }

    void promise3OneOfTwoEqualLettersGoes() {
        asked().type(0, 0, "aa").after("delete 0 0").due("eventAt 0 0", 1).dueText(0, "a");
        asked().type(0, 0, "aa").after("delete 0 1").due("eventAt 0 0", 0).dueText(0, "a");
        asked().type(0, 0, "a").type(1, 0, "a").after("learn 0 1; delete 0 0").due("eventAt 0 0", 0).dueText(0, "a");
    }

    void promise3The60thEventIsTaken() {
        asked().row(0, 59).due("delete 0 58", 59).due("events", 60).due("length 0", 58);
    }

    void promise3The61stEventIsRefused() {
        Asked x = asked().row(0, 60).after("learn 1 0").due("delete 0 0; delete 0 59; delete 1 0", Call.STATE);
        x.due("events; length 0; length 1", 60);
    }

    void promise3NoAuthorComesAheadOfTheFullGraph() {
        asked().row(0, 60).dueWithoutAuthor("delete # 0").dueWithoutAuthor("delete # 60");
    }

    void promise3NoPlaceComesAheadOfTheFullGraph() {
        asked().row(0, 60).due("delete 0 60; delete 0 -1; delete 0 min; delete 0 max; delete 1 0", Call.INDEX);
    }

    // ---- promise 4: learn

    void promise4AuthorsAre0To3() {
        Asked x = asked().type(0, 0, "a").type(3, 0, "b").due("learn 3 0", 1).due("learn 0 3", 1);
        x.due("learn 1 3", 2).due("learn 2 0", 2).due("version 0; version 1; version 2; version 3", 3);
    }

    void promise4NoOtherAuthor() {
        asked().type(0, 0, "a").dueWithoutAuthor("learn # 0").dueWithoutAuthor("learn # #").due("learn 1 0", 1);
    }

    void promise4NoOtherOther() {
        asked().type(0, 0, "a").dueWithoutAuthor("learn 0 #").dueWithoutAuthor("learn 1 #").due("learn 1 0", 1);
    }

    void promise4NothingIsNewOfOneself() {
        asked().type(0, 0, "abc").due("learn 0 0", 0).due("version 0", 7).due("learn 1 1", 0).due("version 1", 0);
    }

    void promise4NothingIsNewOfOneWhoKnowsNothing() {
        asked().type(0, 0, "abc").due("learn 0 1", 0).due("version 0", 7).due("version 1", 0);
    }

    void promise4NothingIsNewTheSecondTime() {
        asked().type(0, 0, "abc").due("learn 1 0", 3).due("learn 1 0", 0).due("version 1", 7);
    }

    void promise4NothingIsNewOfOneWhoKnowsLess() {
        asked().type(0, 0, "abc").after("learn 1 0; insert 1 0 0").due("learn 1 0", 0).due("version 1", 15);
    }

    void promise4OnlyWhatIsNewIsCounted() {
        asked().type(0, 0, "abc").after("learnEvent 1 1; insert 1 0 0").due("learn 1 0", 1).due("learn 0 1", 1);
    }

    void promise4TheOtherOneLearnsNothing() {
        asked().type(0, 0, "a").type(1, 0, "b").due("learn 0 1", 1).due("version 0", 3).due("version 1", 2);
    }

    void promise4WhatTheOtherOneHasLearnedIsLearnedToo() {
        asked().type(0, 0, "ab").after("learn 1 0").due("learn 2 1", 2).dueText(2, "ab");
    }

    void promise4WhatComesLaterIsNotKnown() {
        asked().type(0, 0, "a").due("learn 1 0", 1).type(0, 1, "b").dueText(1, "a").due("learn 1 0", 1);
    }

    void promise4AllOfAFullGraph() {
        asked().row(0, 60).due("learn 3 0", 60).due("length 3", 60).due("version 3", (1L << 60) - 1);
        asked().fullOfFourRows().due("learn 0 1; learn 0 2; learn 0 3", 15).due("learn 3 0", 45).due("learn 0 3", 0);
    }

    // ---- promise 5: learnEvent

    void promise5AuthorsAre0To3() {
        for (int author = 1; author < 4; author++) {
            asked().type(0, 0, "a").due("learnEvent " + author + " 0", 1).due("version " + author, 1);
        }
        asked().type(3, 0, "a").due("learnEvent 0 0", 1).due("version 0", 1);
    }

    void promise5NoOtherAuthor() {
        asked().type(0, 0, "a").dueWithoutAuthor("learnEvent # 0").dueWithoutAuthor("learnEvent # 1");
    }

    void promise5TheFirstEventIsLearnedAlone() {
        asked().type(0, 0, "abc").due("learnEvent 1 0", 1).due("version 1", 1);
    }

    void promise5TheLastEventBringsItsAncestors() {
        asked().type(0, 0, "abc").due("learnEvent 1 2", 3).due("version 1", 7);
    }

    void promise5NoOtherEvent() {
        asked().type(0, 0, "abc").dueWithoutEvent("learnEvent 1 #", 3).due("learnEvent 1 2", 3);
        asked().row(0, 60).dueWithoutEvent("learnEvent 1 #", 60).due("version 1", 0).due("learnEvent 1 59", 60);
    }

    void promise5NothingIsNewOfAnEventThatIsKnown() {
        asked().type(0, 0, "abc").due("learnEvent 0 0; learnEvent 0 2", 0).due("learnEvent 1 1", 2);
        asked().type(0, 0, "abc").after("learn 1 0").due("learnEvent 1 0; learnEvent 1 2", 0).due("version 1", 7);
    }

    void promise5OnlyWhatIsNewIsCounted() {
        asked().type(0, 0, "abcd").due("learnEvent 1 1", 2).due("learnEvent 1 3", 2).due("version 1", 15);
    }

    void promise5ConcurrentEventsAreNotLearned() {
        Asked x = asked().type(0, 0, "a").type(1, 0, "b").after("learn 2 0; learn 2 1; insert 2 0 2");
        x.due("learnEvent 3 1", 1).due("version 3", 2).due("learnEvent 3 2", 2).due("version 3", 7);
    }

    void promise5AllBranchesBehindAMergeAreLearned() {
        Asked x = asked().type(0, 0, "a").after("learn 1 0; learn 2 0; insert 0 0 1; insert 1 0 2; insert 2 0 3");
        x.after("learn 0 1; learn 0 2; delete 0 0").due("learnEvent 3 4", 5).due("version 3", 31);
    }

    void promise5WhatItsAuthorLearnedAfterIsNotLearned() {
        asked().type(0, 0, "a").type(1, 0, "b").after("learn 0 1").due("learnEvent 2 0", 1).due("version 2", 1);
    }

    // ---- promise 6: events

    void promise6CountsTheEditsOfAllAuthors() {
        Asked x = asked().due("events", 0).after("insert 0 0 0").due("events", 1);
        x.after("insert 3 0 0").due("events", 2).after("delete 0 0").due("events", 3);
        x.after("delete 3 0").due("events", 4);
    }

    void promise6LearningMakesNoEvent() {
        asked().type(0, 0, "ab").after("learn 1 0; learnEvent 2 0; learn 3 3").due("events", 2);
    }

    void promise6RefusedEditsAreNoEvents() {
        Asked x = asked().type(0, 0, "a").due("insert 4 0 0; insert 0 2 0; delete 0 1; delete -1 0", Call.INDEX);
        x.due("insert 0 0 26", Call.ARGUMENT).due("events", 1);
    }

    void promise6At60NoneIsAdded() {
        asked().row(0, 60).due("events", 60).due("insert 0 0 0; delete 0 0", Call.STATE).due("events", 60);
    }
}
