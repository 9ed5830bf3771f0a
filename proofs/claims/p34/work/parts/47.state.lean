/-! ===== the world of the two objects, as a state ===== -/
abbrev ST : Type := (Nat → Nat → Int32) × (Nat → List Int32) × (Nat → List (Option Nat)) × Nat × ab_W
def mkW (s : ST) : ab_W :=
  .inl (7, [.ref 1, .ref 12, .ref 23, .ref 37, .ref 39, .ref 42, .ref 43, .ref 44, .int (s.1 0 8), .int (s.1 0 9)]) ::
  .inl (3, [.ref 2, .ref 3, .ref 4, .ref 5, .ref 6, .ref 7, .ref 8, .ref 9, .ref 10, .ref 11, .int (s.1 1 10), .int (s.1 1 11), .int (s.1 1 12), .int (s.1 1 13), .int (s.1 1 14)]) ::
  .inr (.inl (0, s.2.1 2)) ::
  .inr (.inl (0, s.2.1 3)) ::
  .inr (.inl (0, s.2.1 4)) ::
  .inr (.inl (0, s.2.1 5)) ::
  .inr (.inl (0, s.2.1 6)) ::
  .inr (.inl (0, s.2.1 7)) ::
  .inr (.inl (0, s.2.1 8)) ::
  .inr (.inl (0, s.2.1 9)) ::
  .inr (.inr (5, s.2.2.1 10)) ::
  .inr (.inl (0, s.2.1 11)) ::
  .inl (3, [.ref 13, .ref 14, .ref 15, .ref 16, .ref 17, .ref 18, .ref 19, .ref 20, .ref 21, .ref 22, .int (s.1 12 10), .int (s.1 12 11), .int (s.1 12 12), .int (s.1 12 13), .int (s.1 12 14)]) ::
  .inr (.inl (0, s.2.1 13)) ::
  .inr (.inl (0, s.2.1 14)) ::
  .inr (.inl (0, s.2.1 15)) ::
  .inr (.inl (0, s.2.1 16)) ::
  .inr (.inl (0, s.2.1 17)) ::
  .inr (.inl (0, s.2.1 18)) ::
  .inr (.inl (0, s.2.1 19)) ::
  .inr (.inl (0, s.2.1 20)) ::
  .inr (.inr (5, s.2.2.1 21)) ::
  .inr (.inl (0, s.2.1 22)) ::
  .inl (6, [.ref 24, .ref 35, .ref 36]) ::
  .inl (3, [.ref 25, .ref 26, .ref 27, .ref 28, .ref 29, .ref 30, .ref 31, .ref 32, .ref 33, .ref 34, .int (s.1 24 10), .int (s.1 24 11), .int (s.1 24 12), .int (s.1 24 13), .int (s.1 24 14)]) ::
  .inr (.inl (0, s.2.1 25)) ::
  .inr (.inl (0, s.2.1 26)) ::
  .inr (.inl (0, s.2.1 27)) ::
  .inr (.inl (0, s.2.1 28)) ::
  .inr (.inl (0, s.2.1 29)) ::
  .inr (.inl (0, s.2.1 30)) ::
  .inr (.inl (0, s.2.1 31)) ::
  .inr (.inl (0, s.2.1 32)) ::
  .inr (.inr (5, s.2.2.1 33)) ::
  .inr (.inl (0, s.2.1 34)) ::
  .inr (.inl (0, s.2.1 35)) ::
  .inr (.inl (0, s.2.1 36)) ::
  .inl (4, [.ref 38, .int (s.1 37 1)]) ::
  .inr (.inl (0, s.2.1 38)) ::
  .inl (0, [.int (s.1 39 0), .ref 37, .ref 40, .ref 41, .int (s.1 39 4), .int (s.1 39 5), .ref s.2.2.2.1, .int (s.1 39 7), .int (s.1 39 8), .int (s.1 39 9), .int (s.1 39 10)]) ::
  .inr (.inl (0, s.2.1 40)) ::
  .inr (.inl (0, s.2.1 41)) ::
  .inr (.inr (3, [some 45, some 47, some 49, some 51])) ::
  .inr (.inr (4, [some 53, some 56, some 59, some 62, some 65])) ::
  .inr (.inl (0, s.2.1 44)) ::
  .inl (1, [.ref 46, .int (s.1 45 1), .int (s.1 45 2)]) ::
  .inr (.inl (0, s.2.1 46)) ::
  .inl (1, [.ref 48, .int (s.1 47 1), .int (s.1 47 2)]) ::
  .inr (.inl (0, s.2.1 48)) ::
  .inl (1, [.ref 50, .int (s.1 49 1), .int (s.1 49 2)]) ::
  .inr (.inl (0, s.2.1 50)) ::
  .inl (1, [.ref 52, .int (s.1 51 1), .int (s.1 51 2)]) ::
  .inr (.inl (0, s.2.1 52)) ::
  .inl (2, [.ref 54, .int (s.1 53 1), .int (s.1 53 2), .int (s.1 53 3), .int (s.1 53 4), .int (s.1 53 5)]) ::
  .inl (1, [.ref 55, .int (s.1 54 1), .int (s.1 54 2)]) ::
  .inr (.inl (0, s.2.1 55)) ::
  .inl (2, [.ref 57, .int (s.1 56 1), .int (s.1 56 2), .int (s.1 56 3), .int (s.1 56 4), .int (s.1 56 5)]) ::
  .inl (1, [.ref 58, .int (s.1 57 1), .int (s.1 57 2)]) ::
  .inr (.inl (0, s.2.1 58)) ::
  .inl (2, [.ref 60, .int (s.1 59 1), .int (s.1 59 2), .int (s.1 59 3), .int (s.1 59 4), .int (s.1 59 5)]) ::
  .inl (1, [.ref 61, .int (s.1 60 1), .int (s.1 60 2)]) ::
  .inr (.inl (0, s.2.1 61)) ::
  .inl (2, [.ref 63, .int (s.1 62 1), .int (s.1 62 2), .int (s.1 62 3), .int (s.1 62 4), .int (s.1 62 5)]) ::
  .inl (1, [.ref 64, .int (s.1 63 1), .int (s.1 63 2)]) ::
  .inr (.inl (0, s.2.1 64)) ::
  .inl (2, [.ref 66, .int (s.1 65 1), .int (s.1 65 2), .int (s.1 65 3), .int (s.1 65 4), .int (s.1 65 5)]) ::
  .inl (1, [.ref 67, .int (s.1 66 1), .int (s.1 66 2)]) ::
  .inr (.inl (0, s.2.1 67)) ::
  .inl (8, [.ref 69, .ref 70, .ref 71, .int (s.1 68 3), .int (s.1 68 4), .ref 72, .ref 73, .ref 74, .ref 75, .int (s.1 68 9), .int (s.1 68 10), .int (s.1 68 11), .int (s.1 68 12), .int (s.1 68 13), .int (s.1 68 14), .int (s.1 68 15), .ref 76, .ref 77, .ref 78, .int (s.1 68 19), .int (s.1 68 20), .ref 79, .int (s.1 68 22), .ref 80, .ref 81, .ref 82, .ref 83, .ref 84, .ref 85, .ref 86, .ref 87, .ref 88, .ref 89, .ref 90, .ref 91, .int (s.1 68 35)]) ::
  .inr (.inl (0, s.2.1 69)) ::
  .inr (.inl (0, s.2.1 70)) ::
  .inr (.inl (0, s.2.1 71)) ::
  .inr (.inl (0, s.2.1 72)) ::
  .inr (.inl (0, s.2.1 73)) ::
  .inr (.inl (0, s.2.1 74)) ::
  .inr (.inl (0, s.2.1 75)) ::
  .inr (.inl (1, s.2.1 76)) ::
  .inr (.inl (0, s.2.1 77)) ::
  .inr (.inl (0, s.2.1 78)) ::
  .inr (.inl (0, s.2.1 79)) ::
  .inr (.inl (2, s.2.1 80)) ::
  .inr (.inl (0, s.2.1 81)) ::
  .inr (.inl (0, s.2.1 82)) ::
  .inr (.inl (0, s.2.1 83)) ::
  .inr (.inl (0, s.2.1 84)) ::
  .inr (.inl (0, s.2.1 85)) ::
  .inr (.inl (0, s.2.1 86)) ::
  .inr (.inl (0, s.2.1 87)) ::
  .inr (.inl (0, s.2.1 88)) ::
  .inr (.inl (0, s.2.1 89)) ::
  .inr (.inl (0, s.2.1 90)) ::
  .inr (.inl (0, s.2.1 91)) :: s.2.2.2.2
def sI (s : ST) (c f : Nat) (x : Int32) : ST := (fun c' f' => if c' = c then (if f' = f then x else s.1 c' f') else s.1 c' f', s.2)
def sA (s : ST) (c : Nat) (xs : List Int32) : ST := (s.1, fun c' => if c' = c then xs else s.2.1 c', s.2.2)
def sT (s : ST) (c : Nat) (rs : List (Option Nat)) : ST := (s.1, s.2.1, fun c' => if c' = c then rs else s.2.2.1 c', s.2.2.2)
def sN (s : ST) (n : Nat) : ST := (s.1, s.2.1, s.2.2.1, n, s.2.2.2.2)
def sD (s : ST) (d : ab_W) : ST := (s.1, s.2.1, s.2.2.1, s.2.2.2.1, d)
theorem pf_0_8 (s : ST) (x : Int32) : ab_pf (mkW s) 0 7 8 (.int x) = some (mkW (sI s 0 8 x)) := rfl
theorem pf_0_9 (s : ST) (x : Int32) : ab_pf (mkW s) 0 7 9 (.int x) = some (mkW (sI s 0 9 x)) := rfl
theorem pf_1_10 (s : ST) (x : Int32) : ab_pf (mkW s) 1 3 10 (.int x) = some (mkW (sI s 1 10 x)) := rfl
theorem pf_1_11 (s : ST) (x : Int32) : ab_pf (mkW s) 1 3 11 (.int x) = some (mkW (sI s 1 11 x)) := rfl
theorem pf_1_12 (s : ST) (x : Int32) : ab_pf (mkW s) 1 3 12 (.int x) = some (mkW (sI s 1 12 x)) := rfl
theorem pf_1_13 (s : ST) (x : Int32) : ab_pf (mkW s) 1 3 13 (.int x) = some (mkW (sI s 1 13 x)) := rfl
theorem pf_1_14 (s : ST) (x : Int32) : ab_pf (mkW s) 1 3 14 (.int x) = some (mkW (sI s 1 14 x)) := rfl
theorem pf_12_10 (s : ST) (x : Int32) : ab_pf (mkW s) 12 3 10 (.int x) = some (mkW (sI s 12 10 x)) := rfl
theorem pf_12_11 (s : ST) (x : Int32) : ab_pf (mkW s) 12 3 11 (.int x) = some (mkW (sI s 12 11 x)) := rfl
theorem pf_12_12 (s : ST) (x : Int32) : ab_pf (mkW s) 12 3 12 (.int x) = some (mkW (sI s 12 12 x)) := rfl
theorem pf_12_13 (s : ST) (x : Int32) : ab_pf (mkW s) 12 3 13 (.int x) = some (mkW (sI s 12 13 x)) := rfl
theorem pf_12_14 (s : ST) (x : Int32) : ab_pf (mkW s) 12 3 14 (.int x) = some (mkW (sI s 12 14 x)) := rfl
theorem pf_24_10 (s : ST) (x : Int32) : ab_pf (mkW s) 24 3 10 (.int x) = some (mkW (sI s 24 10 x)) := rfl
theorem pf_24_11 (s : ST) (x : Int32) : ab_pf (mkW s) 24 3 11 (.int x) = some (mkW (sI s 24 11 x)) := rfl
theorem pf_24_12 (s : ST) (x : Int32) : ab_pf (mkW s) 24 3 12 (.int x) = some (mkW (sI s 24 12 x)) := rfl
theorem pf_24_13 (s : ST) (x : Int32) : ab_pf (mkW s) 24 3 13 (.int x) = some (mkW (sI s 24 13 x)) := rfl
theorem pf_24_14 (s : ST) (x : Int32) : ab_pf (mkW s) 24 3 14 (.int x) = some (mkW (sI s 24 14 x)) := rfl
theorem pf_37_1 (s : ST) (x : Int32) : ab_pf (mkW s) 37 4 1 (.int x) = some (mkW (sI s 37 1 x)) := rfl
theorem pf_39_0 (s : ST) (x : Int32) : ab_pf (mkW s) 39 0 0 (.int x) = some (mkW (sI s 39 0 x)) := rfl
theorem pf_39_4 (s : ST) (x : Int32) : ab_pf (mkW s) 39 0 4 (.int x) = some (mkW (sI s 39 4 x)) := rfl
theorem pf_39_5 (s : ST) (x : Int32) : ab_pf (mkW s) 39 0 5 (.int x) = some (mkW (sI s 39 5 x)) := rfl
theorem pf_39_7 (s : ST) (x : Int32) : ab_pf (mkW s) 39 0 7 (.int x) = some (mkW (sI s 39 7 x)) := rfl
theorem pf_39_8 (s : ST) (x : Int32) : ab_pf (mkW s) 39 0 8 (.int x) = some (mkW (sI s 39 8 x)) := rfl
theorem pf_39_9 (s : ST) (x : Int32) : ab_pf (mkW s) 39 0 9 (.int x) = some (mkW (sI s 39 9 x)) := rfl
theorem pf_39_10 (s : ST) (x : Int32) : ab_pf (mkW s) 39 0 10 (.int x) = some (mkW (sI s 39 10 x)) := rfl
theorem pf_45_1 (s : ST) (x : Int32) : ab_pf (mkW s) 45 1 1 (.int x) = some (mkW (sI s 45 1 x)) := rfl
theorem pf_45_2 (s : ST) (x : Int32) : ab_pf (mkW s) 45 1 2 (.int x) = some (mkW (sI s 45 2 x)) := rfl
theorem pf_47_1 (s : ST) (x : Int32) : ab_pf (mkW s) 47 1 1 (.int x) = some (mkW (sI s 47 1 x)) := rfl
theorem pf_47_2 (s : ST) (x : Int32) : ab_pf (mkW s) 47 1 2 (.int x) = some (mkW (sI s 47 2 x)) := rfl
theorem pf_49_1 (s : ST) (x : Int32) : ab_pf (mkW s) 49 1 1 (.int x) = some (mkW (sI s 49 1 x)) := rfl
theorem pf_49_2 (s : ST) (x : Int32) : ab_pf (mkW s) 49 1 2 (.int x) = some (mkW (sI s 49 2 x)) := rfl
theorem pf_51_1 (s : ST) (x : Int32) : ab_pf (mkW s) 51 1 1 (.int x) = some (mkW (sI s 51 1 x)) := rfl
theorem pf_51_2 (s : ST) (x : Int32) : ab_pf (mkW s) 51 1 2 (.int x) = some (mkW (sI s 51 2 x)) := rfl
theorem pf_53_1 (s : ST) (x : Int32) : ab_pf (mkW s) 53 2 1 (.int x) = some (mkW (sI s 53 1 x)) := rfl
theorem pf_53_2 (s : ST) (x : Int32) : ab_pf (mkW s) 53 2 2 (.int x) = some (mkW (sI s 53 2 x)) := rfl
theorem pf_53_3 (s : ST) (x : Int32) : ab_pf (mkW s) 53 2 3 (.int x) = some (mkW (sI s 53 3 x)) := rfl
theorem pf_53_4 (s : ST) (x : Int32) : ab_pf (mkW s) 53 2 4 (.int x) = some (mkW (sI s 53 4 x)) := rfl
theorem pf_53_5 (s : ST) (x : Int32) : ab_pf (mkW s) 53 2 5 (.int x) = some (mkW (sI s 53 5 x)) := rfl
theorem pf_54_1 (s : ST) (x : Int32) : ab_pf (mkW s) 54 1 1 (.int x) = some (mkW (sI s 54 1 x)) := rfl
theorem pf_54_2 (s : ST) (x : Int32) : ab_pf (mkW s) 54 1 2 (.int x) = some (mkW (sI s 54 2 x)) := rfl
theorem pf_56_1 (s : ST) (x : Int32) : ab_pf (mkW s) 56 2 1 (.int x) = some (mkW (sI s 56 1 x)) := rfl
theorem pf_56_2 (s : ST) (x : Int32) : ab_pf (mkW s) 56 2 2 (.int x) = some (mkW (sI s 56 2 x)) := rfl
theorem pf_56_3 (s : ST) (x : Int32) : ab_pf (mkW s) 56 2 3 (.int x) = some (mkW (sI s 56 3 x)) := rfl
theorem pf_56_4 (s : ST) (x : Int32) : ab_pf (mkW s) 56 2 4 (.int x) = some (mkW (sI s 56 4 x)) := rfl
theorem pf_56_5 (s : ST) (x : Int32) : ab_pf (mkW s) 56 2 5 (.int x) = some (mkW (sI s 56 5 x)) := rfl
theorem pf_57_1 (s : ST) (x : Int32) : ab_pf (mkW s) 57 1 1 (.int x) = some (mkW (sI s 57 1 x)) := rfl
theorem pf_57_2 (s : ST) (x : Int32) : ab_pf (mkW s) 57 1 2 (.int x) = some (mkW (sI s 57 2 x)) := rfl
theorem pf_59_1 (s : ST) (x : Int32) : ab_pf (mkW s) 59 2 1 (.int x) = some (mkW (sI s 59 1 x)) := rfl
theorem pf_59_2 (s : ST) (x : Int32) : ab_pf (mkW s) 59 2 2 (.int x) = some (mkW (sI s 59 2 x)) := rfl
theorem pf_59_3 (s : ST) (x : Int32) : ab_pf (mkW s) 59 2 3 (.int x) = some (mkW (sI s 59 3 x)) := rfl
theorem pf_59_4 (s : ST) (x : Int32) : ab_pf (mkW s) 59 2 4 (.int x) = some (mkW (sI s 59 4 x)) := rfl
theorem pf_59_5 (s : ST) (x : Int32) : ab_pf (mkW s) 59 2 5 (.int x) = some (mkW (sI s 59 5 x)) := rfl
theorem pf_60_1 (s : ST) (x : Int32) : ab_pf (mkW s) 60 1 1 (.int x) = some (mkW (sI s 60 1 x)) := rfl
theorem pf_60_2 (s : ST) (x : Int32) : ab_pf (mkW s) 60 1 2 (.int x) = some (mkW (sI s 60 2 x)) := rfl
theorem pf_62_1 (s : ST) (x : Int32) : ab_pf (mkW s) 62 2 1 (.int x) = some (mkW (sI s 62 1 x)) := rfl
theorem pf_62_2 (s : ST) (x : Int32) : ab_pf (mkW s) 62 2 2 (.int x) = some (mkW (sI s 62 2 x)) := rfl
theorem pf_62_3 (s : ST) (x : Int32) : ab_pf (mkW s) 62 2 3 (.int x) = some (mkW (sI s 62 3 x)) := rfl
theorem pf_62_4 (s : ST) (x : Int32) : ab_pf (mkW s) 62 2 4 (.int x) = some (mkW (sI s 62 4 x)) := rfl
theorem pf_62_5 (s : ST) (x : Int32) : ab_pf (mkW s) 62 2 5 (.int x) = some (mkW (sI s 62 5 x)) := rfl
theorem pf_63_1 (s : ST) (x : Int32) : ab_pf (mkW s) 63 1 1 (.int x) = some (mkW (sI s 63 1 x)) := rfl
theorem pf_63_2 (s : ST) (x : Int32) : ab_pf (mkW s) 63 1 2 (.int x) = some (mkW (sI s 63 2 x)) := rfl
theorem pf_65_1 (s : ST) (x : Int32) : ab_pf (mkW s) 65 2 1 (.int x) = some (mkW (sI s 65 1 x)) := rfl
theorem pf_65_2 (s : ST) (x : Int32) : ab_pf (mkW s) 65 2 2 (.int x) = some (mkW (sI s 65 2 x)) := rfl
theorem pf_65_3 (s : ST) (x : Int32) : ab_pf (mkW s) 65 2 3 (.int x) = some (mkW (sI s 65 3 x)) := rfl
theorem pf_65_4 (s : ST) (x : Int32) : ab_pf (mkW s) 65 2 4 (.int x) = some (mkW (sI s 65 4 x)) := rfl
theorem pf_65_5 (s : ST) (x : Int32) : ab_pf (mkW s) 65 2 5 (.int x) = some (mkW (sI s 65 5 x)) := rfl
theorem pf_66_1 (s : ST) (x : Int32) : ab_pf (mkW s) 66 1 1 (.int x) = some (mkW (sI s 66 1 x)) := rfl
theorem pf_66_2 (s : ST) (x : Int32) : ab_pf (mkW s) 66 1 2 (.int x) = some (mkW (sI s 66 2 x)) := rfl
theorem pf_68_3 (s : ST) (x : Int32) : ab_pf (mkW s) 68 8 3 (.int x) = some (mkW (sI s 68 3 x)) := rfl
theorem pf_68_4 (s : ST) (x : Int32) : ab_pf (mkW s) 68 8 4 (.int x) = some (mkW (sI s 68 4 x)) := rfl
theorem pf_68_9 (s : ST) (x : Int32) : ab_pf (mkW s) 68 8 9 (.int x) = some (mkW (sI s 68 9 x)) := rfl
theorem pf_68_10 (s : ST) (x : Int32) : ab_pf (mkW s) 68 8 10 (.int x) = some (mkW (sI s 68 10 x)) := rfl
theorem pf_68_11 (s : ST) (x : Int32) : ab_pf (mkW s) 68 8 11 (.int x) = some (mkW (sI s 68 11 x)) := rfl
theorem pf_68_12 (s : ST) (x : Int32) : ab_pf (mkW s) 68 8 12 (.int x) = some (mkW (sI s 68 12 x)) := rfl
theorem pf_68_13 (s : ST) (x : Int32) : ab_pf (mkW s) 68 8 13 (.int x) = some (mkW (sI s 68 13 x)) := rfl
theorem pf_68_14 (s : ST) (x : Int32) : ab_pf (mkW s) 68 8 14 (.int x) = some (mkW (sI s 68 14 x)) := rfl
theorem pf_68_15 (s : ST) (x : Int32) : ab_pf (mkW s) 68 8 15 (.int x) = some (mkW (sI s 68 15 x)) := rfl
theorem pf_68_19 (s : ST) (x : Int32) : ab_pf (mkW s) 68 8 19 (.int x) = some (mkW (sI s 68 19 x)) := rfl
theorem pf_68_20 (s : ST) (x : Int32) : ab_pf (mkW s) 68 8 20 (.int x) = some (mkW (sI s 68 20 x)) := rfl
theorem pf_68_22 (s : ST) (x : Int32) : ab_pf (mkW s) 68 8 22 (.int x) = some (mkW (sI s 68 22 x)) := rfl
theorem pf_68_35 (s : ST) (x : Int32) : ab_pf (mkW s) 68 8 35 (.int x) = some (mkW (sI s 68 35 x)) := rfl
theorem wa_2 (s : ST) (xs : List Int32) : (mkW s).set 2 (.inr (.inl (0, xs))) = mkW (sA s 2 xs) := rfl
theorem wa_3 (s : ST) (xs : List Int32) : (mkW s).set 3 (.inr (.inl (0, xs))) = mkW (sA s 3 xs) := rfl
theorem wa_4 (s : ST) (xs : List Int32) : (mkW s).set 4 (.inr (.inl (0, xs))) = mkW (sA s 4 xs) := rfl
theorem wa_5 (s : ST) (xs : List Int32) : (mkW s).set 5 (.inr (.inl (0, xs))) = mkW (sA s 5 xs) := rfl
theorem wa_6 (s : ST) (xs : List Int32) : (mkW s).set 6 (.inr (.inl (0, xs))) = mkW (sA s 6 xs) := rfl
theorem wa_7 (s : ST) (xs : List Int32) : (mkW s).set 7 (.inr (.inl (0, xs))) = mkW (sA s 7 xs) := rfl
theorem wa_8 (s : ST) (xs : List Int32) : (mkW s).set 8 (.inr (.inl (0, xs))) = mkW (sA s 8 xs) := rfl
theorem wa_9 (s : ST) (xs : List Int32) : (mkW s).set 9 (.inr (.inl (0, xs))) = mkW (sA s 9 xs) := rfl
theorem wa_11 (s : ST) (xs : List Int32) : (mkW s).set 11 (.inr (.inl (0, xs))) = mkW (sA s 11 xs) := rfl
theorem wa_13 (s : ST) (xs : List Int32) : (mkW s).set 13 (.inr (.inl (0, xs))) = mkW (sA s 13 xs) := rfl
theorem wa_14 (s : ST) (xs : List Int32) : (mkW s).set 14 (.inr (.inl (0, xs))) = mkW (sA s 14 xs) := rfl
theorem wa_15 (s : ST) (xs : List Int32) : (mkW s).set 15 (.inr (.inl (0, xs))) = mkW (sA s 15 xs) := rfl
theorem wa_16 (s : ST) (xs : List Int32) : (mkW s).set 16 (.inr (.inl (0, xs))) = mkW (sA s 16 xs) := rfl
theorem wa_17 (s : ST) (xs : List Int32) : (mkW s).set 17 (.inr (.inl (0, xs))) = mkW (sA s 17 xs) := rfl
theorem wa_18 (s : ST) (xs : List Int32) : (mkW s).set 18 (.inr (.inl (0, xs))) = mkW (sA s 18 xs) := rfl
theorem wa_19 (s : ST) (xs : List Int32) : (mkW s).set 19 (.inr (.inl (0, xs))) = mkW (sA s 19 xs) := rfl
theorem wa_20 (s : ST) (xs : List Int32) : (mkW s).set 20 (.inr (.inl (0, xs))) = mkW (sA s 20 xs) := rfl
theorem wa_22 (s : ST) (xs : List Int32) : (mkW s).set 22 (.inr (.inl (0, xs))) = mkW (sA s 22 xs) := rfl
theorem wa_25 (s : ST) (xs : List Int32) : (mkW s).set 25 (.inr (.inl (0, xs))) = mkW (sA s 25 xs) := rfl
theorem wa_26 (s : ST) (xs : List Int32) : (mkW s).set 26 (.inr (.inl (0, xs))) = mkW (sA s 26 xs) := rfl
theorem wa_27 (s : ST) (xs : List Int32) : (mkW s).set 27 (.inr (.inl (0, xs))) = mkW (sA s 27 xs) := rfl
theorem wa_28 (s : ST) (xs : List Int32) : (mkW s).set 28 (.inr (.inl (0, xs))) = mkW (sA s 28 xs) := rfl
theorem wa_29 (s : ST) (xs : List Int32) : (mkW s).set 29 (.inr (.inl (0, xs))) = mkW (sA s 29 xs) := rfl
theorem wa_30 (s : ST) (xs : List Int32) : (mkW s).set 30 (.inr (.inl (0, xs))) = mkW (sA s 30 xs) := rfl
theorem wa_31 (s : ST) (xs : List Int32) : (mkW s).set 31 (.inr (.inl (0, xs))) = mkW (sA s 31 xs) := rfl
theorem wa_32 (s : ST) (xs : List Int32) : (mkW s).set 32 (.inr (.inl (0, xs))) = mkW (sA s 32 xs) := rfl
theorem wa_34 (s : ST) (xs : List Int32) : (mkW s).set 34 (.inr (.inl (0, xs))) = mkW (sA s 34 xs) := rfl
theorem wa_35 (s : ST) (xs : List Int32) : (mkW s).set 35 (.inr (.inl (0, xs))) = mkW (sA s 35 xs) := rfl
theorem wa_36 (s : ST) (xs : List Int32) : (mkW s).set 36 (.inr (.inl (0, xs))) = mkW (sA s 36 xs) := rfl
theorem wa_38 (s : ST) (xs : List Int32) : (mkW s).set 38 (.inr (.inl (0, xs))) = mkW (sA s 38 xs) := rfl
theorem wa_40 (s : ST) (xs : List Int32) : (mkW s).set 40 (.inr (.inl (0, xs))) = mkW (sA s 40 xs) := rfl
theorem wa_41 (s : ST) (xs : List Int32) : (mkW s).set 41 (.inr (.inl (0, xs))) = mkW (sA s 41 xs) := rfl
theorem wa_44 (s : ST) (xs : List Int32) : (mkW s).set 44 (.inr (.inl (0, xs))) = mkW (sA s 44 xs) := rfl
theorem wa_46 (s : ST) (xs : List Int32) : (mkW s).set 46 (.inr (.inl (0, xs))) = mkW (sA s 46 xs) := rfl
theorem wa_48 (s : ST) (xs : List Int32) : (mkW s).set 48 (.inr (.inl (0, xs))) = mkW (sA s 48 xs) := rfl
theorem wa_50 (s : ST) (xs : List Int32) : (mkW s).set 50 (.inr (.inl (0, xs))) = mkW (sA s 50 xs) := rfl
theorem wa_52 (s : ST) (xs : List Int32) : (mkW s).set 52 (.inr (.inl (0, xs))) = mkW (sA s 52 xs) := rfl
theorem wa_55 (s : ST) (xs : List Int32) : (mkW s).set 55 (.inr (.inl (0, xs))) = mkW (sA s 55 xs) := rfl
theorem wa_58 (s : ST) (xs : List Int32) : (mkW s).set 58 (.inr (.inl (0, xs))) = mkW (sA s 58 xs) := rfl
theorem wa_61 (s : ST) (xs : List Int32) : (mkW s).set 61 (.inr (.inl (0, xs))) = mkW (sA s 61 xs) := rfl
theorem wa_64 (s : ST) (xs : List Int32) : (mkW s).set 64 (.inr (.inl (0, xs))) = mkW (sA s 64 xs) := rfl
theorem wa_67 (s : ST) (xs : List Int32) : (mkW s).set 67 (.inr (.inl (0, xs))) = mkW (sA s 67 xs) := rfl
theorem wa_69 (s : ST) (xs : List Int32) : (mkW s).set 69 (.inr (.inl (0, xs))) = mkW (sA s 69 xs) := rfl
theorem wa_70 (s : ST) (xs : List Int32) : (mkW s).set 70 (.inr (.inl (0, xs))) = mkW (sA s 70 xs) := rfl
theorem wa_71 (s : ST) (xs : List Int32) : (mkW s).set 71 (.inr (.inl (0, xs))) = mkW (sA s 71 xs) := rfl
theorem wa_72 (s : ST) (xs : List Int32) : (mkW s).set 72 (.inr (.inl (0, xs))) = mkW (sA s 72 xs) := rfl
theorem wa_73 (s : ST) (xs : List Int32) : (mkW s).set 73 (.inr (.inl (0, xs))) = mkW (sA s 73 xs) := rfl
theorem wa_74 (s : ST) (xs : List Int32) : (mkW s).set 74 (.inr (.inl (0, xs))) = mkW (sA s 74 xs) := rfl
theorem wa_75 (s : ST) (xs : List Int32) : (mkW s).set 75 (.inr (.inl (0, xs))) = mkW (sA s 75 xs) := rfl
theorem wa_76 (s : ST) (xs : List Int32) : (mkW s).set 76 (.inr (.inl (1, xs))) = mkW (sA s 76 xs) := rfl
theorem wa_77 (s : ST) (xs : List Int32) : (mkW s).set 77 (.inr (.inl (0, xs))) = mkW (sA s 77 xs) := rfl
theorem wa_78 (s : ST) (xs : List Int32) : (mkW s).set 78 (.inr (.inl (0, xs))) = mkW (sA s 78 xs) := rfl
theorem wa_79 (s : ST) (xs : List Int32) : (mkW s).set 79 (.inr (.inl (0, xs))) = mkW (sA s 79 xs) := rfl
theorem wa_80 (s : ST) (xs : List Int32) : (mkW s).set 80 (.inr (.inl (2, xs))) = mkW (sA s 80 xs) := rfl
theorem wa_81 (s : ST) (xs : List Int32) : (mkW s).set 81 (.inr (.inl (0, xs))) = mkW (sA s 81 xs) := rfl
theorem wa_82 (s : ST) (xs : List Int32) : (mkW s).set 82 (.inr (.inl (0, xs))) = mkW (sA s 82 xs) := rfl
theorem wa_83 (s : ST) (xs : List Int32) : (mkW s).set 83 (.inr (.inl (0, xs))) = mkW (sA s 83 xs) := rfl
theorem wa_84 (s : ST) (xs : List Int32) : (mkW s).set 84 (.inr (.inl (0, xs))) = mkW (sA s 84 xs) := rfl
theorem wa_85 (s : ST) (xs : List Int32) : (mkW s).set 85 (.inr (.inl (0, xs))) = mkW (sA s 85 xs) := rfl
theorem wa_86 (s : ST) (xs : List Int32) : (mkW s).set 86 (.inr (.inl (0, xs))) = mkW (sA s 86 xs) := rfl
theorem wa_87 (s : ST) (xs : List Int32) : (mkW s).set 87 (.inr (.inl (0, xs))) = mkW (sA s 87 xs) := rfl
theorem wa_88 (s : ST) (xs : List Int32) : (mkW s).set 88 (.inr (.inl (0, xs))) = mkW (sA s 88 xs) := rfl
theorem wa_89 (s : ST) (xs : List Int32) : (mkW s).set 89 (.inr (.inl (0, xs))) = mkW (sA s 89 xs) := rfl
theorem wa_90 (s : ST) (xs : List Int32) : (mkW s).set 90 (.inr (.inl (0, xs))) = mkW (sA s 90 xs) := rfl
theorem wa_91 (s : ST) (xs : List Int32) : (mkW s).set 91 (.inr (.inl (0, xs))) = mkW (sA s 91 xs) := rfl
theorem wt_10 (s : ST) (rs : List (Option Nat)) : (mkW s).set 10 (.inr (.inr (5, rs))) = mkW (sT s 10 rs) := rfl
theorem wt_21 (s : ST) (rs : List (Option Nat)) : (mkW s).set 21 (.inr (.inr (5, rs))) = mkW (sT s 21 rs) := rfl
theorem wt_33 (s : ST) (rs : List (Option Nat)) : (mkW s).set 33 (.inr (.inr (5, rs))) = mkW (sT s 33 rs) := rfl
theorem pf_names (s : ST) (n : Nat) : ab_pf (mkW s) 39 0 6 (.ref n) = some (mkW (sN s n)) := rfl
def isT (b : Nat) : Prop := b = 1 ∨ b = 12 ∨ b = 24
theorem isT1 : isT 1 := Or.inl rfl
theorem isT12 : isT 12 := Or.inr (Or.inl rfl)
theorem isT24 : isT 24 := Or.inr (Or.inr rfl)
theorem raT {b : Nat} (hb : isT b) (s : ST) : ab_ra (mkW s) (b + 9) 5 = some (s.2.2.1 (b + 9)) := by rcases hb with rfl | rfl | rfl <;> rfl
theorem wtT {b : Nat} (hb : isT b) (s : ST) (rs : List (Option Nat)) : (mkW s).set (b + 9) (.inr (.inr (5, rs))) = mkW (sT s (b + 9) rs) := by
  rcases hb with rfl | rfl | rfl
  · exact wt_10 s rs
  · exact wt_21 s rs
  · exact wt_33 s rs
def isH (b : Nat) : Prop := b = 45 ∨ b = 47 ∨ b = 49 ∨ b = 51 ∨ b = 54 ∨ b = 57 ∨ b = 60 ∨ b = 63 ∨ b = 66
def isL (b : Nat) : Prop := b = 53 ∨ b = 56 ∨ b = 59 ∨ b = 62 ∨ b = 65
/-- how long the rows are -/
def LEN : Nat → Nat := fun c => match c with
  | 2 => 12
  | 3 => 12
  | 4 => 12
  | 5 => 12
  | 6 => 12
  | 7 => 12
  | 8 => 24
  | 9 => 96
  | 11 => 3
  | 13 => 12
  | 14 => 12
  | 15 => 12
  | 16 => 12
  | 17 => 12
  | 18 => 12
  | 19 => 24
  | 20 => 96
  | 22 => 3
  | 25 => 12
  | 26 => 12
  | 27 => 12
  | 28 => 12
  | 29 => 12
  | 30 => 12
  | 31 => 24
  | 32 => 96
  | 34 => 3
  | 35 => 64
  | 36 => 6
  | 38 => 96
  | 40 => 96
  | 41 => 96
  | 44 => 60
  | 46 => 24
  | 48 => 24
  | 50 => 24
  | 52 => 24
  | 55 => 24
  | 58 => 24
  | 61 => 24
  | 64 => 24
  | 67 => 24
  | 69 => 1461
  | 70 => 1461
  | 71 => 1461
  | 72 => 4096
  | 73 => 144
  | 74 => 89
  | 75 => 96
  | 76 => 11
  | 77 => 4
  | 78 => 96
  | 79 => 96
  | 80 => 10
  | 81 => 96
  | 82 => 4
  | 83 => 4
  | 84 => 4
  | 85 => 96
  | 86 => 5
  | 87 => 5
  | 88 => 5
  | 89 => 120
  | 90 => 24
  | 91 => 60
  | _ => 0
def okL (s : ST) : Prop := (∀ c, c < 92 → (s.2.1 c).length = LEN c ∨ LEN c = 0) ∧ (s.2.2.1 10).length = 14 ∧ (s.2.2.1 21).length = 14 ∧ (s.2.2.1 33).length = 14
theorem okL_tot {s : ST} (h : okL s) : (mkW s).length = 92 + s.2.2.2.2.length ∧ ab_tot (mkW s) = 10882 + ab_tot s.2.2.2.2 := by
  obtain ⟨h0, h1, h2, h3⟩ := id h
  have l2 : (s.2.1 2).length = 12 := (h.1 2 (by decide)).resolve_right (by decide)
  have l3 : (s.2.1 3).length = 12 := (h.1 3 (by decide)).resolve_right (by decide)
  have l4 : (s.2.1 4).length = 12 := (h.1 4 (by decide)).resolve_right (by decide)
  have l5 : (s.2.1 5).length = 12 := (h.1 5 (by decide)).resolve_right (by decide)
  have l6 : (s.2.1 6).length = 12 := (h.1 6 (by decide)).resolve_right (by decide)
  have l7 : (s.2.1 7).length = 12 := (h.1 7 (by decide)).resolve_right (by decide)
  have l8 : (s.2.1 8).length = 24 := (h.1 8 (by decide)).resolve_right (by decide)
  have l9 : (s.2.1 9).length = 96 := (h.1 9 (by decide)).resolve_right (by decide)
  have l11 : (s.2.1 11).length = 3 := (h.1 11 (by decide)).resolve_right (by decide)
  have l13 : (s.2.1 13).length = 12 := (h.1 13 (by decide)).resolve_right (by decide)
  have l14 : (s.2.1 14).length = 12 := (h.1 14 (by decide)).resolve_right (by decide)
  have l15 : (s.2.1 15).length = 12 := (h.1 15 (by decide)).resolve_right (by decide)
  have l16 : (s.2.1 16).length = 12 := (h.1 16 (by decide)).resolve_right (by decide)
  have l17 : (s.2.1 17).length = 12 := (h.1 17 (by decide)).resolve_right (by decide)
  have l18 : (s.2.1 18).length = 12 := (h.1 18 (by decide)).resolve_right (by decide)
  have l19 : (s.2.1 19).length = 24 := (h.1 19 (by decide)).resolve_right (by decide)
  have l20 : (s.2.1 20).length = 96 := (h.1 20 (by decide)).resolve_right (by decide)
  have l22 : (s.2.1 22).length = 3 := (h.1 22 (by decide)).resolve_right (by decide)
  have l25 : (s.2.1 25).length = 12 := (h.1 25 (by decide)).resolve_right (by decide)
  have l26 : (s.2.1 26).length = 12 := (h.1 26 (by decide)).resolve_right (by decide)
  have l27 : (s.2.1 27).length = 12 := (h.1 27 (by decide)).resolve_right (by decide)
  have l28 : (s.2.1 28).length = 12 := (h.1 28 (by decide)).resolve_right (by decide)
  have l29 : (s.2.1 29).length = 12 := (h.1 29 (by decide)).resolve_right (by decide)
  have l30 : (s.2.1 30).length = 12 := (h.1 30 (by decide)).resolve_right (by decide)
  have l31 : (s.2.1 31).length = 24 := (h.1 31 (by decide)).resolve_right (by decide)
  have l32 : (s.2.1 32).length = 96 := (h.1 32 (by decide)).resolve_right (by decide)
  have l34 : (s.2.1 34).length = 3 := (h.1 34 (by decide)).resolve_right (by decide)
  have l35 : (s.2.1 35).length = 64 := (h.1 35 (by decide)).resolve_right (by decide)
  have l36 : (s.2.1 36).length = 6 := (h.1 36 (by decide)).resolve_right (by decide)
  have l38 : (s.2.1 38).length = 96 := (h.1 38 (by decide)).resolve_right (by decide)
  have l40 : (s.2.1 40).length = 96 := (h.1 40 (by decide)).resolve_right (by decide)
  have l41 : (s.2.1 41).length = 96 := (h.1 41 (by decide)).resolve_right (by decide)
  have l44 : (s.2.1 44).length = 60 := (h.1 44 (by decide)).resolve_right (by decide)
  have l46 : (s.2.1 46).length = 24 := (h.1 46 (by decide)).resolve_right (by decide)
  have l48 : (s.2.1 48).length = 24 := (h.1 48 (by decide)).resolve_right (by decide)
  have l50 : (s.2.1 50).length = 24 := (h.1 50 (by decide)).resolve_right (by decide)
  have l52 : (s.2.1 52).length = 24 := (h.1 52 (by decide)).resolve_right (by decide)
  have l55 : (s.2.1 55).length = 24 := (h.1 55 (by decide)).resolve_right (by decide)
  have l58 : (s.2.1 58).length = 24 := (h.1 58 (by decide)).resolve_right (by decide)
  have l61 : (s.2.1 61).length = 24 := (h.1 61 (by decide)).resolve_right (by decide)
  have l64 : (s.2.1 64).length = 24 := (h.1 64 (by decide)).resolve_right (by decide)
  have l67 : (s.2.1 67).length = 24 := (h.1 67 (by decide)).resolve_right (by decide)
  have l69 : (s.2.1 69).length = 1461 := (h.1 69 (by decide)).resolve_right (by decide)
  have l70 : (s.2.1 70).length = 1461 := (h.1 70 (by decide)).resolve_right (by decide)
  have l71 : (s.2.1 71).length = 1461 := (h.1 71 (by decide)).resolve_right (by decide)
  have l72 : (s.2.1 72).length = 4096 := (h.1 72 (by decide)).resolve_right (by decide)
  have l73 : (s.2.1 73).length = 144 := (h.1 73 (by decide)).resolve_right (by decide)
  have l74 : (s.2.1 74).length = 89 := (h.1 74 (by decide)).resolve_right (by decide)
  have l75 : (s.2.1 75).length = 96 := (h.1 75 (by decide)).resolve_right (by decide)
  have l76 : (s.2.1 76).length = 11 := (h.1 76 (by decide)).resolve_right (by decide)
  have l77 : (s.2.1 77).length = 4 := (h.1 77 (by decide)).resolve_right (by decide)
  have l78 : (s.2.1 78).length = 96 := (h.1 78 (by decide)).resolve_right (by decide)
  have l79 : (s.2.1 79).length = 96 := (h.1 79 (by decide)).resolve_right (by decide)
  have l80 : (s.2.1 80).length = 10 := (h.1 80 (by decide)).resolve_right (by decide)
  have l81 : (s.2.1 81).length = 96 := (h.1 81 (by decide)).resolve_right (by decide)
  have l82 : (s.2.1 82).length = 4 := (h.1 82 (by decide)).resolve_right (by decide)
  have l83 : (s.2.1 83).length = 4 := (h.1 83 (by decide)).resolve_right (by decide)
  have l84 : (s.2.1 84).length = 4 := (h.1 84 (by decide)).resolve_right (by decide)
  have l85 : (s.2.1 85).length = 96 := (h.1 85 (by decide)).resolve_right (by decide)
  have l86 : (s.2.1 86).length = 5 := (h.1 86 (by decide)).resolve_right (by decide)
  have l87 : (s.2.1 87).length = 5 := (h.1 87 (by decide)).resolve_right (by decide)
  have l88 : (s.2.1 88).length = 5 := (h.1 88 (by decide)).resolve_right (by decide)
  have l89 : (s.2.1 89).length = 120 := (h.1 89 (by decide)).resolve_right (by decide)
  have l90 : (s.2.1 90).length = 24 := (h.1 90 (by decide)).resolve_right (by decide)
  have l91 : (s.2.1 91).length = 60 := (h.1 91 (by decide)).resolve_right (by decide)
  refine ⟨?_, ?_⟩
  · simp [mkW]; omega
  · simp only [mkW, ab_tot, ab_sz, List.map_cons, List.sum_cons, List.length_cons, List.length_nil, h1, h2, h3, l2, l3, l4, l5, l6, l7, l8, l9, l11, l13, l14, l15, l16, l17, l18, l19, l20, l22, l25, l26, l27, l28, l29, l30, l31, l32, l34, l35, l36, l38, l40, l41, l44, l46, l48, l50, l52, l55, l58, l61, l64, l67, l69, l70, l71, l72, l73, l74, l75, l76, l77, l78, l79, l80, l81, l82, l83, l84, l85, l86, l87, l88, l89, l90, l91]
    generalize (List.map ab_sz s.2.2.2.2).sum = X
    simp only [← Nat.add_assoc, Nat.reduceAdd]
/-- the state of two fresh objects -/
def s1I : Nat → Nat → Int32 := fun c f => match c, f with
  | 1, 14 => 1
  | 12, 14 => 1
  | 24, 14 => 1
  | 45, 1 => (-1)
  | 47, 1 => (-1)
  | 49, 1 => (-1)
  | 51, 1 => (-1)
  | 54, 1 => (-1)
  | 57, 1 => (-1)
  | 60, 1 => (-1)
  | 63, 1 => (-1)
  | 66, 1 => (-1)
  | 68, 4 => (-1)
  | _, _ => 0
def s1A : Nat → List Int32 := fun c => match c with
  | 2 => List.replicate 12 0
  | 3 => List.replicate 12 0
  | 4 => List.replicate 12 0
  | 5 => List.replicate 12 0
  | 6 => List.replicate 12 0
  | 7 => List.replicate 12 (-1)
  | 8 => List.replicate 24 50
  | 9 => List.replicate 96 0
  | 11 => List.replicate 3 (-1)
  | 13 => List.replicate 12 0
  | 14 => List.replicate 12 0
  | 15 => List.replicate 12 0
  | 16 => List.replicate 12 0
  | 17 => List.replicate 12 0
  | 18 => List.replicate 12 (-1)
  | 19 => List.replicate 24 50
  | 20 => List.replicate 96 0
  | 22 => List.replicate 3 (-1)
  | 25 => List.replicate 12 0
  | 26 => List.replicate 12 0
  | 27 => List.replicate 12 0
  | 28 => List.replicate 12 0
  | 29 => List.replicate 12 0
  | 30 => List.replicate 12 (-1)
  | 31 => List.replicate 24 50
  | 32 => List.replicate 96 0
  | 34 => List.replicate 3 (-1)
  | 35 => List.replicate 64 0
  | 36 => List.replicate 6 0
  | 38 => List.replicate 96 0
  | 40 => List.replicate 96 0
  | 41 => List.replicate 96 0
  | 44 => List.replicate 60 0
  | 46 => List.replicate 24 0
  | 48 => List.replicate 24 0
  | 50 => List.replicate 24 0
  | 52 => List.replicate 24 0
  | 55 => List.replicate 24 0
  | 58 => List.replicate 24 0
  | 61 => List.replicate 24 0
  | 64 => List.replicate 24 0
  | 67 => List.replicate 24 0
  | 69 => [1, 0, 0, 0, 0] ++ (List.replicate 24 50 ++ List.replicate 1432 0)
  | 70 => List.replicate 1461 0
  | 71 => List.replicate 1461 0
  | 72 => List.replicate 4096 0
  | 73 => List.replicate 144 0
  | 74 => List.replicate 89 0
  | 75 => List.replicate 96 0
  | 76 => [100, 97, 114, 107, 102, 101, 101, 102, 105, 110, 101]
  | 77 => [0, 4, 7, 11]
  | 78 => List.replicate 96 0
  | 79 => List.replicate 96 0
  | 80 => List.replicate 10 0
  | 81 => List.replicate 96 0
  | 82 => List.replicate 4 0
  | 83 => List.replicate 4 (-1)
  | 84 => List.replicate 4 0
  | 85 => List.replicate 96 0
  | 86 => List.replicate 5 0
  | 87 => List.replicate 5 0
  | 88 => List.replicate 5 0
  | 89 => List.replicate 120 0
  | 90 => List.replicate 24 0
  | 91 => List.replicate 60 0
  | _ => []
def s1T : Nat → List (Option Nat) := fun _ => List.replicate 14 none
def s1 : ST := (s1I, s1A, s1T, 1000002, [])
/-! both constructors, from the law's first block -/
