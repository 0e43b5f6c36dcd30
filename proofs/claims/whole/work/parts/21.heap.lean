/-! the heap of the law, from the two constructors on: A the arrays by address, V the numbers, O the law's own array -/
def hp (A : Nat → Nat → Int32) (V : Nat → Int32) (O : Nat → Int64) : List jC := [
  .inr (3, [.ref 1, .ref 11, .ref 19, .int (V 0), .int (V 1)]),
  .inr (0, [.ref 2, .ref 3, .ref 4, .ref 5, .ref 6, .ref 7, .ref 8, .ref 9, .ref 10, .int (V 2)]),
  .inl (0, 16, .inl (A 2)),
  .inl (0, 16, .inl (A 3)),
  .inl (0, 16, .inl (A 4)),
  .inl (0, 16, .inl (A 5)),
  .inl (0, 16, .inl (A 6)),
  .inl (0, 16, .inl (A 7)),
  .inl (0, 16, .inl (A 8)),
  .inl (0, 16, .inl (A 9)),
  .inl (1, 16, .inl (A 10)),
  .inr (1, [.ref 12, .ref 13, .ref 14, .ref 15, .ref 16, .ref 17, .ref 18, .int (V 3), .int (V 4)]),
  .inl (0, 300, .inl (A 12)),
  .inl (0, 300, .inl (A 13)),
  .inl (0, 300, .inl (A 14)),
  .inl (0, 320, .inl (A 15)),
  .inl (0, 320, .inl (A 16)),
  .inl (0, 320, .inl (A 17)),
  .inl (0, 320, .inl (A 18)),
  .inr (2, [.ref 20, .ref 21, .ref 22, .ref 23, .ref 24, .int (V 5)]),
  .inl (0, 12, .inl (A 20)),
  .inl (0, 12, .inl (A 21)),
  .inl (0, 20, .inl (A 22)),
  .inl (0, 12, .inl (A 23)),
  .inl (0, 20, .inl (A 24)),
  .inr (4, [.int (V 6), .int (V 7), .int (V 8), .int (V 9), .ref 26, .ref 27, .ref 28, .ref 29, .ref 30, .ref 31, .int (V 10), .ref 32, .ref 33, .ref 34, .ref 35, .ref 36, .ref 37, .ref 38, .int (V 11), .ref 39, .ref 40, .ref 41, .ref 42, .ref 43, .ref 44]),
  .inl (0, 16, .inl (A 26)),
  .inl (0, 16, .inl (A 27)),
  .inl (0, 16, .inl (A 28)),
  .inl (0, 16, .inl (A 29)),
  .inl (1, 256, .inl (A 30)),
  .inl (1, 320, .inl (A 31)),
  .inl (0, 300, .inl (A 32)),
  .inl (0, 300, .inl (A 33)),
  .inl (0, 300, .inl (A 34)),
  .inl (1, 300, .inl (A 35)),
  .inl (0, 300, .inl (A 36)),
  .inl (0, 15000, .inl (A 37)),
  .inl (0, 320, .inl (A 38)),
  .inl (0, 12, .inl (A 39)),
  .inl (0, 12, .inl (A 40)),
  .inl (0, 20, .inl (A 41)),
  .inl (1, 240, .inl (A 42)),
  .inl (0, 20, .inl (A 43)),
  .inl (0, 20, .inl (A 44)),
  .inl (2, 1, .inr O)]
section HP
variable {A : Nat → Nat → Int32} {V : Nat → Int32} {O : Nat → Int64}
theorem hs2 {f : Nat → Int32} : (hp A V O).set 2 (.inl (0, 16, .inl f)) = hp (va_up A 2 f) V O := rfl
theorem hs3 {f : Nat → Int32} : (hp A V O).set 3 (.inl (0, 16, .inl f)) = hp (va_up A 3 f) V O := rfl
theorem hs4 {f : Nat → Int32} : (hp A V O).set 4 (.inl (0, 16, .inl f)) = hp (va_up A 4 f) V O := rfl
theorem hs5 {f : Nat → Int32} : (hp A V O).set 5 (.inl (0, 16, .inl f)) = hp (va_up A 5 f) V O := rfl
theorem hs6 {f : Nat → Int32} : (hp A V O).set 6 (.inl (0, 16, .inl f)) = hp (va_up A 6 f) V O := rfl
theorem hs7 {f : Nat → Int32} : (hp A V O).set 7 (.inl (0, 16, .inl f)) = hp (va_up A 7 f) V O := rfl
theorem hs8 {f : Nat → Int32} : (hp A V O).set 8 (.inl (0, 16, .inl f)) = hp (va_up A 8 f) V O := rfl
theorem hs9 {f : Nat → Int32} : (hp A V O).set 9 (.inl (0, 16, .inl f)) = hp (va_up A 9 f) V O := rfl
theorem hs10 {f : Nat → Int32} : (hp A V O).set 10 (.inl (1, 16, .inl f)) = hp (va_up A 10 f) V O := rfl
theorem hs12 {f : Nat → Int32} : (hp A V O).set 12 (.inl (0, 300, .inl f)) = hp (va_up A 12 f) V O := rfl
theorem hs13 {f : Nat → Int32} : (hp A V O).set 13 (.inl (0, 300, .inl f)) = hp (va_up A 13 f) V O := rfl
theorem hs14 {f : Nat → Int32} : (hp A V O).set 14 (.inl (0, 300, .inl f)) = hp (va_up A 14 f) V O := rfl
theorem hs15 {f : Nat → Int32} : (hp A V O).set 15 (.inl (0, 320, .inl f)) = hp (va_up A 15 f) V O := rfl
theorem hs16 {f : Nat → Int32} : (hp A V O).set 16 (.inl (0, 320, .inl f)) = hp (va_up A 16 f) V O := rfl
theorem hs17 {f : Nat → Int32} : (hp A V O).set 17 (.inl (0, 320, .inl f)) = hp (va_up A 17 f) V O := rfl
theorem hs18 {f : Nat → Int32} : (hp A V O).set 18 (.inl (0, 320, .inl f)) = hp (va_up A 18 f) V O := rfl
theorem hs20 {f : Nat → Int32} : (hp A V O).set 20 (.inl (0, 12, .inl f)) = hp (va_up A 20 f) V O := rfl
theorem hs21 {f : Nat → Int32} : (hp A V O).set 21 (.inl (0, 12, .inl f)) = hp (va_up A 21 f) V O := rfl
theorem hs22 {f : Nat → Int32} : (hp A V O).set 22 (.inl (0, 20, .inl f)) = hp (va_up A 22 f) V O := rfl
theorem hs23 {f : Nat → Int32} : (hp A V O).set 23 (.inl (0, 12, .inl f)) = hp (va_up A 23 f) V O := rfl
theorem hs24 {f : Nat → Int32} : (hp A V O).set 24 (.inl (0, 20, .inl f)) = hp (va_up A 24 f) V O := rfl
theorem hs26 {f : Nat → Int32} : (hp A V O).set 26 (.inl (0, 16, .inl f)) = hp (va_up A 26 f) V O := rfl
theorem hs27 {f : Nat → Int32} : (hp A V O).set 27 (.inl (0, 16, .inl f)) = hp (va_up A 27 f) V O := rfl
theorem hs28 {f : Nat → Int32} : (hp A V O).set 28 (.inl (0, 16, .inl f)) = hp (va_up A 28 f) V O := rfl
theorem hs29 {f : Nat → Int32} : (hp A V O).set 29 (.inl (0, 16, .inl f)) = hp (va_up A 29 f) V O := rfl
theorem hs30 {f : Nat → Int32} : (hp A V O).set 30 (.inl (1, 256, .inl f)) = hp (va_up A 30 f) V O := rfl
theorem hs31 {f : Nat → Int32} : (hp A V O).set 31 (.inl (1, 320, .inl f)) = hp (va_up A 31 f) V O := rfl
theorem hs32 {f : Nat → Int32} : (hp A V O).set 32 (.inl (0, 300, .inl f)) = hp (va_up A 32 f) V O := rfl
theorem hs33 {f : Nat → Int32} : (hp A V O).set 33 (.inl (0, 300, .inl f)) = hp (va_up A 33 f) V O := rfl
theorem hs34 {f : Nat → Int32} : (hp A V O).set 34 (.inl (0, 300, .inl f)) = hp (va_up A 34 f) V O := rfl
theorem hs35 {f : Nat → Int32} : (hp A V O).set 35 (.inl (1, 300, .inl f)) = hp (va_up A 35 f) V O := rfl
theorem hs36 {f : Nat → Int32} : (hp A V O).set 36 (.inl (0, 300, .inl f)) = hp (va_up A 36 f) V O := rfl
theorem hs37 {f : Nat → Int32} : (hp A V O).set 37 (.inl (0, 15000, .inl f)) = hp (va_up A 37 f) V O := rfl
theorem hs38 {f : Nat → Int32} : (hp A V O).set 38 (.inl (0, 320, .inl f)) = hp (va_up A 38 f) V O := rfl
theorem hs39 {f : Nat → Int32} : (hp A V O).set 39 (.inl (0, 12, .inl f)) = hp (va_up A 39 f) V O := rfl
theorem hs40 {f : Nat → Int32} : (hp A V O).set 40 (.inl (0, 12, .inl f)) = hp (va_up A 40 f) V O := rfl
theorem hs41 {f : Nat → Int32} : (hp A V O).set 41 (.inl (0, 20, .inl f)) = hp (va_up A 41 f) V O := rfl
theorem hs42 {f : Nat → Int32} : (hp A V O).set 42 (.inl (1, 240, .inl f)) = hp (va_up A 42 f) V O := rfl
theorem hs43 {f : Nat → Int32} : (hp A V O).set 43 (.inl (0, 20, .inl f)) = hp (va_up A 43 f) V O := rfl
theorem hs44 {f : Nat → Int32} : (hp A V O).set 44 (.inl (0, 20, .inl f)) = hp (va_up A 44 f) V O := rfl
theorem hv0 {v : Int32} : (hp A V O).set 0 (.inr (3, [.ref 1, .ref 11, .ref 19, .int v, .int (V 1)])) = hp A (va_up V 0 v) O := rfl
theorem hv1 {v : Int32} : (hp A V O).set 0 (.inr (3, [.ref 1, .ref 11, .ref 19, .int (V 0), .int v])) = hp A (va_up V 1 v) O := rfl
theorem hv2 {v : Int32} : (hp A V O).set 1 (.inr (0, [.ref 2, .ref 3, .ref 4, .ref 5, .ref 6, .ref 7, .ref 8, .ref 9, .ref 10, .int v])) = hp A (va_up V 2 v) O := rfl
theorem hv3 {v : Int32} : (hp A V O).set 11 (.inr (1, [.ref 12, .ref 13, .ref 14, .ref 15, .ref 16, .ref 17, .ref 18, .int v, .int (V 4)])) = hp A (va_up V 3 v) O := rfl
theorem hv4 {v : Int32} : (hp A V O).set 11 (.inr (1, [.ref 12, .ref 13, .ref 14, .ref 15, .ref 16, .ref 17, .ref 18, .int (V 3), .int v])) = hp A (va_up V 4 v) O := rfl
theorem hv5 {v : Int32} : (hp A V O).set 19 (.inr (2, [.ref 20, .ref 21, .ref 22, .ref 23, .ref 24, .int v])) = hp A (va_up V 5 v) O := rfl
theorem hv6 {v : Int32} : (hp A V O).set 25 (.inr (4, [.int v, .int (V 7), .int (V 8), .int (V 9), .ref 26, .ref 27, .ref 28, .ref 29, .ref 30, .ref 31, .int (V 10), .ref 32, .ref 33, .ref 34, .ref 35, .ref 36, .ref 37, .ref 38, .int (V 11), .ref 39, .ref 40, .ref 41, .ref 42, .ref 43, .ref 44])) = hp A (va_up V 6 v) O := rfl
theorem hv7 {v : Int32} : (hp A V O).set 25 (.inr (4, [.int (V 6), .int v, .int (V 8), .int (V 9), .ref 26, .ref 27, .ref 28, .ref 29, .ref 30, .ref 31, .int (V 10), .ref 32, .ref 33, .ref 34, .ref 35, .ref 36, .ref 37, .ref 38, .int (V 11), .ref 39, .ref 40, .ref 41, .ref 42, .ref 43, .ref 44])) = hp A (va_up V 7 v) O := rfl
theorem hv8 {v : Int32} : (hp A V O).set 25 (.inr (4, [.int (V 6), .int (V 7), .int v, .int (V 9), .ref 26, .ref 27, .ref 28, .ref 29, .ref 30, .ref 31, .int (V 10), .ref 32, .ref 33, .ref 34, .ref 35, .ref 36, .ref 37, .ref 38, .int (V 11), .ref 39, .ref 40, .ref 41, .ref 42, .ref 43, .ref 44])) = hp A (va_up V 8 v) O := rfl
theorem hv9 {v : Int32} : (hp A V O).set 25 (.inr (4, [.int (V 6), .int (V 7), .int (V 8), .int v, .ref 26, .ref 27, .ref 28, .ref 29, .ref 30, .ref 31, .int (V 10), .ref 32, .ref 33, .ref 34, .ref 35, .ref 36, .ref 37, .ref 38, .int (V 11), .ref 39, .ref 40, .ref 41, .ref 42, .ref 43, .ref 44])) = hp A (va_up V 9 v) O := rfl
theorem hv10 {v : Int32} : (hp A V O).set 25 (.inr (4, [.int (V 6), .int (V 7), .int (V 8), .int (V 9), .ref 26, .ref 27, .ref 28, .ref 29, .ref 30, .ref 31, .int v, .ref 32, .ref 33, .ref 34, .ref 35, .ref 36, .ref 37, .ref 38, .int (V 11), .ref 39, .ref 40, .ref 41, .ref 42, .ref 43, .ref 44])) = hp A (va_up V 10 v) O := rfl
theorem hv11 {v : Int32} : (hp A V O).set 25 (.inr (4, [.int (V 6), .int (V 7), .int (V 8), .int (V 9), .ref 26, .ref 27, .ref 28, .ref 29, .ref 30, .ref 31, .int (V 10), .ref 32, .ref 33, .ref 34, .ref 35, .ref 36, .ref 37, .ref 38, .int v, .ref 39, .ref 40, .ref 41, .ref 42, .ref 43, .ref 44])) = hp A (va_up V 11 v) O := rfl
theorem ho45 {f : Nat → Int64} : (hp A V O).set 45 (.inl (2, 1, .inr f)) = hp A V f := rfl
theorem hplen : (hp A V O).length = 46 := rfl
end HP
