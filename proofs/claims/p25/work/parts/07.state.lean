-- WHAT A STATE IS: the cells of an EditGraph and of its reference, by what they hold
abbrev tyL (cI cJ : ClassId) : List (ClassId × FieldType) := [(cI, .int), (cJ, .long)]
def wX (q : Nat → Nat) (cI cJ : ClassId) (n : Int32) (mk lt tg : Nat → Int32) (pa an la kn : Nat → Int64) (fb : Int32) (fh nb te wt bh : Nat → Int32) : va_W :=
  [(q 0, .inr (0, [.int n, .ref (q 1), .ref (q 2), .ref (q 3), .ref (q 4), .ref (q 5), .ref (q 6), .ref (q 7), .int fb, .ref (q 8), .ref (q 9), .ref (q 10), .ref (q 11), .ref (q 12)])),
   (q 1, .inl (cI, 60, .inl mk)), (q 2, .inl (cI, 60, .inl lt)), (q 3, .inl (cI, 60, .inl tg)), (q 4, .inl (cJ, 60, .inr (.inl pa))), (q 5, .inl (cJ, 60, .inr (.inl an))), (q 6, .inl (cJ, 60, .inr (.inl la))), (q 7, .inl (cJ, 4, .inr (.inl kn))),
   (q 8, .inl (cI, 60, .inl fh)), (q 9, .inl (cI, 60, .inl nb)), (q 10, .inl (cI, 60, .inl te)), (q 11, .inl (cI, 60, .inl wt)), (q 12, .inl (cI, 60, .inl bh))]
def wM (q : Nat → Nat) (cI cJ : ClassId) (n : Int32) (mk lt tg : Nat → Int32) (pa an kn : Nat → Int64) (row : Nat → Int32) (len thr : Int32) : va_W :=
  [(q 0, .inr (1, [.ref (q 1), .ref (q 2), .ref (q 3), .ref (q 4), .ref (q 5), .int n, .ref (q 6), .ref (q 7), .int len, .int thr])),
   (q 1, .inl (cI, 60, .inl mk)), (q 2, .inl (cI, 60, .inl lt)), (q 3, .inl (cI, 60, .inl tg)), (q 4, .inl (cJ, 60, .inr (.inl pa))), (q 5, .inl (cJ, 60, .inr (.inl an))), (q 6, .inl (cJ, 4, .inr (.inl kn))), (q 7, .inl (cI, 60, .inl row))]
theorem wX_ad {q : Nat → Nat} {cI cJ : ClassId} {n n' fb fb' : Int32} {mk lt tg mk' lt' tg' fh nb te wt bh fh' nb' te' wt' bh' : Nat → Int32} {pa an la kn pa' an' la' kn' : Nat → Int64} : (wX q cI cJ n' mk' lt' tg' pa' an' la' kn' fb' fh' nb' te' wt' bh').map Prod.fst = (wX q cI cJ n mk lt tg pa an la kn fb fh nb te wt bh).map Prod.fst := rfl
theorem wM_ad {q : Nat → Nat} {cI cJ : ClassId} {n n' len len' thr thr' : Int32} {mk lt tg mk' lt' tg' row row' : Nat → Int32} {pa an kn pa' an' kn' : Nat → Int64} : (wM q cI cJ n' mk' lt' tg' pa' an' kn' row' len' thr').map Prod.fst = (wM q cI cJ n mk lt tg pa an kn row len thr).map Prod.fst := rfl
