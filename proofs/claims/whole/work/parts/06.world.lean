/-! The world: the class's cells (0 to 21) and the reference's (22 to 33), at the addresses q; v: the ints of the objects; r: the arrays by their cells; ex: what else there is. -/
def wd_lk (q : Nat → Nat) : Nat → Option Nat
  | 0 => some (q 4)
  | 1 => some (q 5)
  | 2 => some (q 6)
  | _ => none
abbrev wd_ty (k : Nat → ClassId) : List (ClassId × FieldType) := [(k 0, .int), (k 1, .boolean), (k 2, .array .int), (k 3, .long)]
abbrev wd (k : Nat → ClassId) (q : Nat → Nat) (v : Nat → Int32) (r : Nat → Nat → Int32) (ex : va_W) : va_W :=
  (q 0, .inr (0, [.ref (q 1), .ref (q 7), .ref (q 12), .ref (q 14), .ref (q 16), .ref (q 18), .int (v 9)])) ::
  (q 1, .inr (1, [.ref (q 2), .ref (q 3), .int (v 0), .int (v 1), .int (v 2), .int (v 3)])) ::
  (q 2, .inl (k 0, 12, .inl (r 2))) ::
  (q 3, .inl (k 2, 3, .inr (.inr (.inr (.inr (wd_lk q)))))) ::
  (q 4, .inl (k 0, 12, .inl (r 4))) ::
  (q 5, .inl (k 0, 12, .inl (r 5))) ::
  (q 6, .inl (k 0, 12, .inl (r 6))) ::
  (q 7, .inr (3, [.ref (q 1), .ref (q 8), .ref (q 9), .ref (q 10), .ref (q 11), .int (v 4)])) ::
  (q 8, .inl (k 0, 1024, .inl (r 8))) ::
  (q 9, .inl (k 0, 1024, .inl (r 9))) ::
  (q 10, .inl (k 0, 1024, .inl (r 10))) ::
  (q 11, .inl (k 0, 10, .inl (r 11))) ::
  (q 12, .inr (2, [.ref (q 13), .int (v 5)])) ::
  (q 13, .inl (k 0, 1023, .inl (r 13))) ::
  (q 14, .inr (2, [.ref (q 15), .int (v 6)])) ::
  (q 15, .inl (k 0, 24, .inl (r 15))) ::
  (q 16, .inr (4, [.ref (q 1), .ref (q 17)])) ::
  (q 17, .inl (k 0, 10, .inl (r 17))) ::
  (q 18, .inr (5, [.ref (q 1), .ref (q 16), .ref (q 19), .ref (q 20), .ref (q 21), .int (v 7), .int (v 8)])) ::
  (q 19, .inl (k 0, 12, .inl (r 19))) ::
  (q 20, .inl (k 0, 12, .inl (r 20))) ::
  (q 21, .inl (k 0, 12, .inl (r 21))) ::
  (q 22, .inr (6, [.int (v 10), .int (v 11), .int (v 12), .int (v 13), .int (v 14), .ref (q 23), .ref (q 24), .ref (q 25), .ref (q 26), .int (v 15), .int (v 16), .ref (q 27), .int (v 17), .ref (q 28), .ref (q 29), .ref (q 30), .ref (q 31), .ref (q 32), .int (v 18), .ref (q 33), .int (v 19)])) ::
  (q 23, .inl (k 0, 12, .inl (r 23))) ::
  (q 24, .inl (k 0, 12, .inl (r 24))) ::
  (q 25, .inl (k 0, 12, .inl (r 25))) ::
  (q 26, .inl (k 0, 12, .inl (r 26))) ::
  (q 27, .inl (k 0, 1024, .inl (r 27))) ::
  (q 28, .inl (k 0, 24, .inl (r 28))) ::
  (q 29, .inl (k 0, 1024, .inl (r 29))) ::
  (q 30, .inl (k 1, 1024, .inl (r 30))) ::
  (q 31, .inl (k 0, 12, .inl (r 31))) ::
  (q 32, .inl (k 0, 10, .inl (r 32))) ::
  (q 33, .inl (k 0, 128, .inl (r 33))) :: ex
