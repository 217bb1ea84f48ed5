/** The boundary cases of promises 7 to 13: texts. */
public final class TextsEdgeTest extends PromiseCases {
    private TextsEdgeTest() {
    }

    public static void main(String[] args) throws IllegalAccessException {
        new TextsEdgeTest().runAll();
    }

    /** Four authors, each with one letter of his own: a, b, c and z. */
    private Asked four() {
        return asked().after("insert 0 0 0; insert 1 0 1; insert 2 0 2; insert 3 0 25");
    }

    // ---- promise 7: length

    void promise7AuthorsAre0To3() {
        asked().type(3, 0, "ab").type(0, 0, "a").due("length 0", 1).due("length 3", 2).due("length 1; length 2", 0);
    }

    void promise7NoOtherAuthor() {
        asked().dueWithoutAuthor("length #").type(0, 0, "a").dueWithoutAuthor("length #").due("length 0", 1);
    }

    void promise7WhoKnowsNothingHasAnEmptyText() {
        asked().row(0, 60).due("length 1; length 2; length 3", 0);
    }

    void promise7AnEmptiedTextHasLength0() {
        asked().type(0, 0, "ab").after("delete 0 1; delete 0 0").due("length 0", 0);
    }

    void promise7TheLongestTextHas60Letters() {
        asked().row(0, 60).due("length 0", 60);
        asked().fullOfFourRows().due("length 0; length 3", 15).after("learn 2 0; learn 2 1; learn 2 3")
            .due("length 2", 60);
    }

    // ---- promises 8 and 9: letterAt, letterByList

    void promises8And9AuthorsAre0To3() {
        four().due("letterAt 0 0; letterByList 0 0", 0).due("letterAt 3 0; letterByList 3 0", 25);
    }

    void promises8And9NoOtherAuthor() {
        four().dueWithoutAuthor("letterAt # 0").dueWithoutAuthor("letterByList # 0").dueWithoutAuthor("letterAt # -1");
    }

    void promises8And9TheFirstPlaceIs0AndTheLastTheLengthLess1() {
        asked().type(0, 0, "bcd").due("letterAt 0 0; letterByList 0 0", 1).due("letterAt 0 2; letterByList 0 2", 3);
    }

    void promises8And9NoLetterAheadOfTheFirst() {
        asked().type(0, 0, "ab").due("letterAt 0 -1; letterAt 0 min", Call.INDEX)
            .due("letterByList 0 -1; letterByList 0 min", Call.INDEX);
    }

    void promises8And9NoLetterBehindTheLast() {
        asked().type(0, 0, "ab").due("letterAt 0 2; letterAt 0 max", Call.INDEX)
            .due("letterByList 0 2; letterByList 0 max", Call.INDEX);
    }

    void promises8And9NoLetterInAnEmptyText() {
        asked().dueText(0, "").type(0, 0, "ab").dueText(1, "").after("delete 0 0; delete 0 0").dueText(0, "");
    }

    void promises8And9NoLetterBehindTheLastWhereLettersAreDeleted() {
        asked().type(0, 0, "abcd").after("delete 0 1; delete 0 1").dueText(0, "ad");
    }

    void promises8And9NoLetterBehindTheLastWhereOthersHaveMore() {
        asked().type(0, 0, "abcd").after("learnEvent 1 1").dueText(1, "ab").dueText(0, "abcd");
    }

    void promises8And9TheNewestOfThoseAtTheBeginningComesFirst() {
        Asked x = four().after("learn 0 2; learn 0 1").dueText(0, "cba").after("learn 0 3").dueText(0, "zcba");
        x.after("learn 2 0").dueText(2, "zcba");
    }

    void promises8And9TheNewestOfThoseAtALetterComesFirst() {
        Asked x = asked().type(0, 0, "a").after("learn 1 0; learn 2 0; insert 1 1 1; insert 0 1 2; insert 2 1 3");
        x.after("learn 0 1; learn 0 2").dueText(0, "adcb").after("learn 1 2").dueText(1, "adb");
    }

    void promises8And9WhatHangsAtALetterFollowsItAheadOfItsNeighbours() {
        Asked x = asked().type(0, 0, "ab").type(1, 0, "cd").after("learn 0 1; insert 0 1 4; learn 1 0");
        // The e hangs at the c and is newer than the d; both stand ahead of the a and of what hangs there.
        x.dueText(0, "cedab").dueText(1, "cedab");
    }

    void promises8And9WhatHangsAtADeletedLetterKeepsItsPlace() {
        Asked x = asked().type(0, 0, "abc").after("learn 1 0; insert 1 2 3; insert 1 3 4; delete 0 1; learn 0 1");
        x.dueText(0, "adec").dueText(1, "abdec").after("learn 1 0").dueText(1, "adec");
    }

    void promises8And9WhatHangsInARowOfDeletedLettersKeepsItsPlace() {
        Asked x = asked().type(0, 0, "abcd").after("insert 0 0 4; learn 1 0; insert 1 5 5");
        x.after("delete 0 1; delete 0 1; delete 0 1; delete 0 1; delete 0 0").dueText(0, "");
        x.after("learn 0 1").dueText(0, "f").dueText(1, "eabcdf");
    }

    void promises8And9ALetterTypedBehindANewerOneStaysBehindIt() {
        asked().type(0, 0, "a").type(0, 0, "b").type(0, 1, "c").type(0, 3, "d").dueText(0, "bcad");
    }

    void promises8And9ARowOf60() {
        Asked x = asked().row(0, 60).due("letterAt 0 0; letterByList 0 0", 0);
        x.due("letterAt 0 31; letterByList 0 31", 5).due("letterAt 0 32; letterByList 0 32", 6);
        x.due("letterAt 0 59; letterByList 0 59", 7).dueWithoutPlace("letterAt 0 #", 60);
        x.dueWithoutPlace("letterByList 0 #", 60);
    }

    void promises8And9SixtyAtTheBeginning() {
        Asked x = asked();
        for (int event = 0; event < 60; event++) {
            x.after("insert 0 0 " + event % 26);
        }
        for (int place = 0; place < 60; place++) {
            x.due("letterAt 0 " + place + "; letterByList 0 " + place, (59 - place) % 26);
        }
        x.dueWithoutPlace("letterAt 0 #", 60).dueWithoutPlace("letterByList 0 #", 60);
    }

    void promises8And9FiftyNineAtOneLetter() {
        Asked x = asked().after("insert 0 0 0");
        for (int event = 1; event < 60; event++) {
            x.after("insert 0 1 " + event % 26);
        }
        x.due("letterAt 0 0; letterByList 0 0", 0);
        for (int place = 1; place < 60; place++) {
            x.due("letterAt 0 " + place + "; letterByList 0 " + place, (60 - place) % 26);
        }
        x.dueWithoutPlace("letterAt 0 #", 60).dueWithoutPlace("letterByList 0 #", 60);
    }

    void promises8And9FourRowsOf15() {
        Asked x = asked().fullOfFourRows().after("learn 1 0; learn 1 2; learn 1 3");
        // The row that begins with event 3 comes first, that of event 0 last.
        x.due("letterAt 1 0; letterByList 1 0", 3).due("letterAt 1 14; letterByList 1 14", 7);
        x.due("letterAt 1 15; letterByList 1 15", 2).due("letterAt 1 45; letterByList 1 45", 0);
        x.due("letterAt 1 59; letterByList 1 59", 4).dueWithoutPlace("letterAt 1 #", 60);
        x.dueWithoutPlace("letterByList 1 #", 60);
    }

    void promise9LaysNoLetterThatTheAuthorDoesNotKnow() {
        Asked x = asked().type(0, 0, "a").type(1, 0, "b").type(2, 0, "c").after("learn 2 1");
        x.due("letterByList 2 0", 2).due("letterByList 2 1", 1).due("letterByList 2 2", Call.INDEX);
        x.due("letterByList 3 0", Call.INDEX).due("letterByList 0 0", 0).due("letterByList 0 1", Call.INDEX);
    }

    void promise9LaysInsertsOnly() {
        Asked x = asked().type(0, 0, "ab").after("delete 0 1").type(1, 0, "c").after("learn 1 0");
        x.due("letterByList 1 0", 2).due("letterByList 1 1", 0).due("letterByList 1 2", Call.INDEX);
    }

    void promise9AsksTheSameAgainAndAgain() {
        Asked x = asked().type(0, 0, "abc").after("delete 0 1");
        for (int time = 0; time < 3; time++) {
            x.due("letterByList 0 0", 0).due("letterByList 0 1", 2).due("letterByList 1 0", Call.INDEX);
        }
    }

    // ---- promise 10: eventAt

    void promise10AuthorsAre0To3() {
        four().due("eventAt 0 0", 0).due("eventAt 1 0", 1).due("eventAt 2 0", 2).due("eventAt 3 0", 3);
    }

    void promise10NoOtherAuthor() {
        four().dueWithoutAuthor("eventAt # 0").dueWithoutAuthor("eventAt # 1");
    }

    void promise10TheFirstPlaceIs0AndTheLastTheLengthLess1() {
        asked().type(0, 0, "ab").type(0, 0, "cd").due("eventAt 0 0", 2).due("eventAt 0 3", 1);
    }

    void promise10NoLetterAheadOfTheFirstOrBehindTheLast() {
        asked().type(0, 0, "ab").dueWithoutPlace("eventAt 0 #", 2);
    }

    void promise10NoLetterInAnEmptyText() {
        Asked x = asked().dueWithoutPlace("eventAt 0 #", 0).type(0, 0, "a").dueWithoutPlace("eventAt 1 #", 0);
        x.after("delete 0 0").dueWithoutPlace("eventAt 0 #", 0);
    }

    void promise10ADeletedLetterAndADeleteStandNowhere() {
        asked().type(0, 0, "abc").after("delete 0 0").due("eventAt 0 0", 1).due("eventAt 0 1", 2)
            .dueWithoutPlace("eventAt 0 #", 2);
    }

    void promise10TheFullGraph() {
        asked().row(0, 60).due("eventAt 0 0", 0).due("eventAt 0 31", 31).due("eventAt 0 32", 32).due("eventAt 0 59", 59)
            .dueWithoutPlace("eventAt 0 #", 60);
    }

    // ---- promise 11: lengthOf

    void promise11EventsAre0ToTheLast() {
        asked().type(0, 0, "abc").due("lengthOf 0", 1).due("lengthOf 1", 2).due("lengthOf 2", 3);
    }

    void promise11NoOtherEvent() {
        asked().dueWithoutEvent("lengthOf #", 0).type(0, 0, "abc").dueWithoutEvent("lengthOf #", 3);
        asked().row(0, 60).dueWithoutEvent("lengthOf #", 60).due("lengthOf 59", 60).due("lengthOf 31", 32);
    }

    void promise11ADeletesVersionIsWithoutTheLetter() {
        asked().type(0, 0, "ab").after("delete 0 0").due("lengthOf 1", 2).due("lengthOf 2", 1);
    }

    void promise11AVersionsTextMayBeEmpty() {
        asked().type(0, 0, "a").after("delete 0 0; insert 0 0 1").due("lengthOf 0", 1).due("lengthOf 1", 0)
            .due("lengthOf 2", 1);
    }

    void promise11ConcurrentEventsAreNotInTheVersion() {
        Asked x = asked().type(0, 0, "ab").after("learn 1 0; delete 0 0; insert 1 0 2; learn 0 1; insert 0 0 3");
        x.due("lengthOf 2", 1).due("lengthOf 3", 3).due("lengthOf 4", 3);
    }

    void promise11WhatTheAuthorLearnsLaterIsNotInTheVersion() {
        asked().type(0, 0, "a").type(1, 0, "bc").due("lengthOf 0", 1).after("learn 0 1").due("lengthOf 0", 1);
    }

    // ---- promise 12: letterOf

    void promise12EventsAre0ToTheLast() {
        asked().type(0, 0, "bcd").dueTextOf(0, "b").dueTextOf(1, "bc").dueTextOf(2, "bcd");
    }

    void promise12NoOtherEvent() {
        asked().dueWithoutEvent("letterOf # 0", 0).type(0, 0, "abc").dueWithoutEvent("letterOf # 0", 3);
        asked().row(0, 60).dueWithoutEvent("letterOf # 0", 60).dueWithoutEvent("letterOf # 60", 60);
    }

    void promise12NoLetterAheadOfTheFirst() {
        asked().type(0, 0, "abc").due("letterOf 1 -1; letterOf 1 min", Call.INDEX).due("letterOf 1 0", 0);
    }

    void promise12NoLetterBehindTheLastOfTheVersion() {
        asked().type(0, 0, "abc").due("letterOf 1 1", 1).due("letterOf 1 2; letterOf 1 3; letterOf 1 max", Call.INDEX);
    }

    void promise12NoLetterInAnEmptyText() {
        asked().type(0, 0, "a").after("delete 0 0; insert 0 0 1").dueTextOf(1, "").dueTextOf(0, "a").dueTextOf(2, "b");
    }

    void promise12NothingOfConcurrentEventsIsInTheText() {
        Asked x = asked().type(0, 0, "ab").after("learn 1 0; delete 0 0; insert 1 1 2; learn 0 1; insert 0 2 3");
        x.dueTextOf(1, "ab").dueTextOf(2, "b").dueTextOf(3, "acb").dueTextOf(4, "cbd");
    }

    void promise12TheFullGraph() {
        Asked x = asked().row(0, 60).due("letterOf 59 0; letterOf 0 0", 0).due("letterOf 59 59", 7);
        x.due("letterOf 32 32", 6).dueWithoutPlace("letterOf 32 #", 33).dueWithoutPlace("letterOf 59 #", 60);
    }

    // ---- promise 13: lettersBy

    void promise13AuthorsAre0To3() {
        Asked x = four().type(3, 1, "y");
        for (int author = 0; author < 4; author++) {
            for (int by = 0; by < 4; by++) {
                x.due("lettersBy " + author + " " + by, author != by ? 0 : author == 3 ? 2 : 1);
            }
        }
    }

    void promise13NoOtherAuthor() {
        four().dueWithoutAuthor("lettersBy # 0").dueWithoutAuthor("lettersBy # #");
    }

    void promise13NoOtherBy() {
        asked().dueWithoutAuthor("lettersBy 0 #").type(0, 0, "a").dueWithoutAuthor("lettersBy 0 #")
            .dueWithoutAuthor("lettersBy 1 #");
    }

    void promise13NoneInAnEmptyText() {
        Asked x = asked().due("lettersBy 0 0; lettersBy 3 3", 0).type(0, 0, "a").due("lettersBy 1 0; lettersBy 1 1", 0);
        x.after("delete 0 0").due("lettersBy 0 0", 0);
    }

    void promise13LettersAreTheirMakersThoughAnotherOneHasLearnedThem() {
        Asked x = asked().type(0, 0, "ab").after("learn 1 0").type(1, 2, "cde").due("lettersBy 1 0", 2);
        x.due("lettersBy 1 1", 3).due("lettersBy 0 0", 2).due("lettersBy 0 1", 0);
    }

    void promise13DeletedLettersAreNotInTheText() {
        Asked x = asked().type(0, 0, "ab").after("learn 1 0; delete 1 0").due("lettersBy 1 0", 1);
        x.due("lettersBy 1 1", 0).due("lettersBy 0 0", 2);
    }

    void promise13TheFullGraph() {
        asked().row(0, 60).due("lettersBy 0 0", 60).due("lettersBy 0 1", 0);
        Asked x = asked().fullOfFourRows().after("learn 1 0; learn 1 2; learn 1 3");
        x.due("lettersBy 1 0; lettersBy 1 1; lettersBy 1 2; lettersBy 1 3", 15).due("lettersBy 0 3", 0);
    }
}
