/-! ===== what lies where ===== -/
theorem sW_A (t : TS) (c : Nat) : (sW t).2.1 c = row (LEN c) (tA t c) := rfl
theorem g_0_0 (t : TS) : ab_gf (mk t) 0 7 0 = some (.ref 1) := rfl
theorem g_0_1 (t : TS) : ab_gf (mk t) 0 7 1 = some (.ref 12) := rfl
theorem g_0_2 (t : TS) : ab_gf (mk t) 0 7 2 = some (.ref 23) := rfl
theorem g_0_3 (t : TS) : ab_gf (mk t) 0 7 3 = some (.ref 37) := rfl
theorem g_0_4 (t : TS) : ab_gf (mk t) 0 7 4 = some (.ref 39) := rfl
theorem g_0_5 (t : TS) : ab_gf (mk t) 0 7 5 = some (.ref 42) := rfl
theorem g_0_6 (t : TS) : ab_gf (mk t) 0 7 6 = some (.ref 43) := rfl
theorem g_0_7 (t : TS) : ab_gf (mk t) 0 7 7 = some (.ref 44) := rfl
theorem g_0_8 (t : TS) : ab_gf (mk t) 0 7 8 = some (.int (jI (tI t 0 8))) := rfl
theorem p_0_8 (t : TS) : ∀ x : Int32, ab_pf (mk t) 0 7 8 (.int x) = some (mkW (sI (sW t) 0 8 x)) := pf_0_8 (sW t)
theorem g_0_9 (t : TS) : ab_gf (mk t) 0 7 9 = some (.int (jI (tI t 0 9))) := rfl
theorem p_0_9 (t : TS) : ∀ x : Int32, ab_pf (mk t) 0 7 9 (.int x) = some (mkW (sI (sW t) 0 9 x)) := pf_0_9 (sW t)
theorem oj_0 (t : TS) : ∃ fs, (mk t)[0]? = some (.inl (7, fs)) := ⟨_, rfl⟩
theorem g_1_0 (t : TS) : ab_gf (mk t) 1 3 0 = some (.ref 2) := rfl
theorem g_1_1 (t : TS) : ab_gf (mk t) 1 3 1 = some (.ref 3) := rfl
theorem g_1_2 (t : TS) : ab_gf (mk t) 1 3 2 = some (.ref 4) := rfl
theorem g_1_3 (t : TS) : ab_gf (mk t) 1 3 3 = some (.ref 5) := rfl
theorem g_1_4 (t : TS) : ab_gf (mk t) 1 3 4 = some (.ref 6) := rfl
theorem g_1_5 (t : TS) : ab_gf (mk t) 1 3 5 = some (.ref 7) := rfl
theorem g_1_6 (t : TS) : ab_gf (mk t) 1 3 6 = some (.ref 8) := rfl
theorem g_1_7 (t : TS) : ab_gf (mk t) 1 3 7 = some (.ref 9) := rfl
theorem g_1_8 (t : TS) : ab_gf (mk t) 1 3 8 = some (.ref 10) := rfl
theorem g_1_9 (t : TS) : ab_gf (mk t) 1 3 9 = some (.ref 11) := rfl
theorem g_1_10 (t : TS) : ab_gf (mk t) 1 3 10 = some (.int (jI (tI t 1 10))) := rfl
theorem p_1_10 (t : TS) : ∀ x : Int32, ab_pf (mk t) 1 3 10 (.int x) = some (mkW (sI (sW t) 1 10 x)) := pf_1_10 (sW t)
theorem g_1_11 (t : TS) : ab_gf (mk t) 1 3 11 = some (.int (jI (tI t 1 11))) := rfl
theorem p_1_11 (t : TS) : ∀ x : Int32, ab_pf (mk t) 1 3 11 (.int x) = some (mkW (sI (sW t) 1 11 x)) := pf_1_11 (sW t)
theorem g_1_12 (t : TS) : ab_gf (mk t) 1 3 12 = some (.int (jI (tI t 1 12))) := rfl
theorem p_1_12 (t : TS) : ∀ x : Int32, ab_pf (mk t) 1 3 12 (.int x) = some (mkW (sI (sW t) 1 12 x)) := pf_1_12 (sW t)
theorem g_1_13 (t : TS) : ab_gf (mk t) 1 3 13 = some (.int (jI (tI t 1 13))) := rfl
theorem p_1_13 (t : TS) : ∀ x : Int32, ab_pf (mk t) 1 3 13 (.int x) = some (mkW (sI (sW t) 1 13 x)) := pf_1_13 (sW t)
theorem g_1_14 (t : TS) : ab_gf (mk t) 1 3 14 = some (.int (jI (tI t 1 14))) := rfl
theorem p_1_14 (t : TS) : ∀ x : Int32, ab_pf (mk t) 1 3 14 (.int x) = some (mkW (sI (sW t) 1 14 x)) := pf_1_14 (sW t)
theorem oj_1 (t : TS) : ∃ fs, (mk t)[1]? = some (.inl (3, fs)) := ⟨_, rfl⟩
theorem g_12_0 (t : TS) : ab_gf (mk t) 12 3 0 = some (.ref 13) := rfl
theorem g_12_1 (t : TS) : ab_gf (mk t) 12 3 1 = some (.ref 14) := rfl
theorem g_12_2 (t : TS) : ab_gf (mk t) 12 3 2 = some (.ref 15) := rfl
theorem g_12_3 (t : TS) : ab_gf (mk t) 12 3 3 = some (.ref 16) := rfl
theorem g_12_4 (t : TS) : ab_gf (mk t) 12 3 4 = some (.ref 17) := rfl
theorem g_12_5 (t : TS) : ab_gf (mk t) 12 3 5 = some (.ref 18) := rfl
theorem g_12_6 (t : TS) : ab_gf (mk t) 12 3 6 = some (.ref 19) := rfl
theorem g_12_7 (t : TS) : ab_gf (mk t) 12 3 7 = some (.ref 20) := rfl
theorem g_12_8 (t : TS) : ab_gf (mk t) 12 3 8 = some (.ref 21) := rfl
theorem g_12_9 (t : TS) : ab_gf (mk t) 12 3 9 = some (.ref 22) := rfl
theorem g_12_10 (t : TS) : ab_gf (mk t) 12 3 10 = some (.int (jI (tI t 12 10))) := rfl
theorem p_12_10 (t : TS) : ∀ x : Int32, ab_pf (mk t) 12 3 10 (.int x) = some (mkW (sI (sW t) 12 10 x)) := pf_12_10 (sW t)
theorem g_12_11 (t : TS) : ab_gf (mk t) 12 3 11 = some (.int (jI (tI t 12 11))) := rfl
theorem p_12_11 (t : TS) : ∀ x : Int32, ab_pf (mk t) 12 3 11 (.int x) = some (mkW (sI (sW t) 12 11 x)) := pf_12_11 (sW t)
theorem g_12_12 (t : TS) : ab_gf (mk t) 12 3 12 = some (.int (jI (tI t 12 12))) := rfl
theorem p_12_12 (t : TS) : ∀ x : Int32, ab_pf (mk t) 12 3 12 (.int x) = some (mkW (sI (sW t) 12 12 x)) := pf_12_12 (sW t)
theorem g_12_13 (t : TS) : ab_gf (mk t) 12 3 13 = some (.int (jI (tI t 12 13))) := rfl
theorem p_12_13 (t : TS) : ∀ x : Int32, ab_pf (mk t) 12 3 13 (.int x) = some (mkW (sI (sW t) 12 13 x)) := pf_12_13 (sW t)
theorem g_12_14 (t : TS) : ab_gf (mk t) 12 3 14 = some (.int (jI (tI t 12 14))) := rfl
theorem p_12_14 (t : TS) : ∀ x : Int32, ab_pf (mk t) 12 3 14 (.int x) = some (mkW (sI (sW t) 12 14 x)) := pf_12_14 (sW t)
theorem oj_12 (t : TS) : ∃ fs, (mk t)[12]? = some (.inl (3, fs)) := ⟨_, rfl⟩
theorem g_23_0 (t : TS) : ab_gf (mk t) 23 6 0 = some (.ref 24) := rfl
theorem g_23_1 (t : TS) : ab_gf (mk t) 23 6 1 = some (.ref 35) := rfl
theorem g_23_2 (t : TS) : ab_gf (mk t) 23 6 2 = some (.ref 36) := rfl
theorem oj_23 (t : TS) : ∃ fs, (mk t)[23]? = some (.inl (6, fs)) := ⟨_, rfl⟩
theorem g_24_0 (t : TS) : ab_gf (mk t) 24 3 0 = some (.ref 25) := rfl
theorem g_24_1 (t : TS) : ab_gf (mk t) 24 3 1 = some (.ref 26) := rfl
theorem g_24_2 (t : TS) : ab_gf (mk t) 24 3 2 = some (.ref 27) := rfl
theorem g_24_3 (t : TS) : ab_gf (mk t) 24 3 3 = some (.ref 28) := rfl
theorem g_24_4 (t : TS) : ab_gf (mk t) 24 3 4 = some (.ref 29) := rfl
theorem g_24_5 (t : TS) : ab_gf (mk t) 24 3 5 = some (.ref 30) := rfl
theorem g_24_6 (t : TS) : ab_gf (mk t) 24 3 6 = some (.ref 31) := rfl
theorem g_24_7 (t : TS) : ab_gf (mk t) 24 3 7 = some (.ref 32) := rfl
theorem g_24_8 (t : TS) : ab_gf (mk t) 24 3 8 = some (.ref 33) := rfl
theorem g_24_9 (t : TS) : ab_gf (mk t) 24 3 9 = some (.ref 34) := rfl
theorem g_24_10 (t : TS) : ab_gf (mk t) 24 3 10 = some (.int (jI (tI t 24 10))) := rfl
theorem p_24_10 (t : TS) : ∀ x : Int32, ab_pf (mk t) 24 3 10 (.int x) = some (mkW (sI (sW t) 24 10 x)) := pf_24_10 (sW t)
theorem p_24_11 (t : TS) : ∀ x : Int32, ab_pf (mk t) 24 3 11 (.int x) = some (mkW (sI (sW t) 24 11 x)) := pf_24_11 (sW t)
theorem p_24_12 (t : TS) : ∀ x : Int32, ab_pf (mk t) 24 3 12 (.int x) = some (mkW (sI (sW t) 24 12 x)) := pf_24_12 (sW t)
theorem p_24_13 (t : TS) : ∀ x : Int32, ab_pf (mk t) 24 3 13 (.int x) = some (mkW (sI (sW t) 24 13 x)) := pf_24_13 (sW t)
theorem p_24_14 (t : TS) : ∀ x : Int32, ab_pf (mk t) 24 3 14 (.int x) = some (mkW (sI (sW t) 24 14 x)) := pf_24_14 (sW t)
theorem oj_24 (t : TS) : ∃ fs, (mk t)[24]? = some (.inl (3, fs)) := ⟨_, rfl⟩
theorem g_37_0 (t : TS) : ab_gf (mk t) 37 4 0 = some (.ref 38) := rfl
theorem g_37_1 (t : TS) : ab_gf (mk t) 37 4 1 = some (.int (jI (tI t 37 1))) := rfl
theorem p_37_1 (t : TS) : ∀ x : Int32, ab_pf (mk t) 37 4 1 (.int x) = some (mkW (sI (sW t) 37 1 x)) := pf_37_1 (sW t)
theorem oj_37 (t : TS) : ∃ fs, (mk t)[37]? = some (.inl (4, fs)) := ⟨_, rfl⟩
theorem g_39_0 (t : TS) : ab_gf (mk t) 39 0 0 = some (.int (jI (tI t 39 0))) := rfl
theorem p_39_0 (t : TS) : ∀ x : Int32, ab_pf (mk t) 39 0 0 (.int x) = some (mkW (sI (sW t) 39 0 x)) := pf_39_0 (sW t)
theorem g_39_1 (t : TS) : ab_gf (mk t) 39 0 1 = some (.ref 37) := rfl
theorem g_39_2 (t : TS) : ab_gf (mk t) 39 0 2 = some (.ref 40) := rfl
theorem g_39_3 (t : TS) : ab_gf (mk t) 39 0 3 = some (.ref 41) := rfl
theorem g_39_4 (t : TS) : ab_gf (mk t) 39 0 4 = some (.int (jI (tI t 39 4))) := rfl
theorem p_39_4 (t : TS) : ∀ x : Int32, ab_pf (mk t) 39 0 4 (.int x) = some (mkW (sI (sW t) 39 4 x)) := pf_39_4 (sW t)
theorem g_39_5 (t : TS) : ab_gf (mk t) 39 0 5 = some (.int (jI (tI t 39 5))) := rfl
theorem p_39_5 (t : TS) : ∀ x : Int32, ab_pf (mk t) 39 0 5 (.int x) = some (mkW (sI (sW t) 39 5 x)) := pf_39_5 (sW t)
theorem g_39_6 (t : TS) : ab_gf (mk t) 39 0 6 = some (.ref (tN t)) := rfl
theorem g_39_7 (t : TS) : ab_gf (mk t) 39 0 7 = some (.int (jI (tI t 39 7))) := rfl
theorem p_39_7 (t : TS) : ∀ x : Int32, ab_pf (mk t) 39 0 7 (.int x) = some (mkW (sI (sW t) 39 7 x)) := pf_39_7 (sW t)
theorem g_39_8 (t : TS) : ab_gf (mk t) 39 0 8 = some (.int (jI (tI t 39 8))) := rfl
theorem p_39_8 (t : TS) : ∀ x : Int32, ab_pf (mk t) 39 0 8 (.int x) = some (mkW (sI (sW t) 39 8 x)) := pf_39_8 (sW t)
theorem g_39_9 (t : TS) : ab_gf (mk t) 39 0 9 = some (.int (jI (tI t 39 9))) := rfl
theorem p_39_9 (t : TS) : ∀ x : Int32, ab_pf (mk t) 39 0 9 (.int x) = some (mkW (sI (sW t) 39 9 x)) := pf_39_9 (sW t)
theorem g_39_10 (t : TS) : ab_gf (mk t) 39 0 10 = some (.int (jI (tI t 39 10))) := rfl
theorem p_39_10 (t : TS) : ∀ x : Int32, ab_pf (mk t) 39 0 10 (.int x) = some (mkW (sI (sW t) 39 10 x)) := pf_39_10 (sW t)
theorem oj_39 (t : TS) : ∃ fs, (mk t)[39]? = some (.inl (0, fs)) := ⟨_, rfl⟩
theorem g_68_0 (t : TS) : ab_gf (mk t) 68 8 0 = some (.ref 69) := rfl
theorem g_68_1 (t : TS) : ab_gf (mk t) 68 8 1 = some (.ref 70) := rfl
theorem g_68_2 (t : TS) : ab_gf (mk t) 68 8 2 = some (.ref 71) := rfl
theorem g_68_3 (t : TS) : ab_gf (mk t) 68 8 3 = some (.int (jI (tI t 68 3))) := rfl
theorem p_68_3 (t : TS) : ∀ x : Int32, ab_pf (mk t) 68 8 3 (.int x) = some (mkW (sI (sW t) 68 3 x)) := pf_68_3 (sW t)
theorem g_68_4 (t : TS) : ab_gf (mk t) 68 8 4 = some (.int (jI (tI t 68 4))) := rfl
theorem p_68_4 (t : TS) : ∀ x : Int32, ab_pf (mk t) 68 8 4 (.int x) = some (mkW (sI (sW t) 68 4 x)) := pf_68_4 (sW t)
theorem g_68_5 (t : TS) : ab_gf (mk t) 68 8 5 = some (.ref 72) := rfl
theorem g_68_6 (t : TS) : ab_gf (mk t) 68 8 6 = some (.ref 73) := rfl
theorem g_68_7 (t : TS) : ab_gf (mk t) 68 8 7 = some (.ref 74) := rfl
theorem g_68_8 (t : TS) : ab_gf (mk t) 68 8 8 = some (.ref 75) := rfl
theorem g_68_9 (t : TS) : ab_gf (mk t) 68 8 9 = some (.int (jI (tI t 68 9))) := rfl
theorem p_68_9 (t : TS) : ∀ x : Int32, ab_pf (mk t) 68 8 9 (.int x) = some (mkW (sI (sW t) 68 9 x)) := pf_68_9 (sW t)
theorem g_68_10 (t : TS) : ab_gf (mk t) 68 8 10 = some (.int (jI (tI t 68 10))) := rfl
theorem p_68_10 (t : TS) : ∀ x : Int32, ab_pf (mk t) 68 8 10 (.int x) = some (mkW (sI (sW t) 68 10 x)) := pf_68_10 (sW t)
theorem g_68_11 (t : TS) : ab_gf (mk t) 68 8 11 = some (.int (jI (tI t 68 11))) := rfl
theorem p_68_11 (t : TS) : ∀ x : Int32, ab_pf (mk t) 68 8 11 (.int x) = some (mkW (sI (sW t) 68 11 x)) := pf_68_11 (sW t)
theorem g_68_12 (t : TS) : ab_gf (mk t) 68 8 12 = some (.int (jI (tI t 68 12))) := rfl
theorem p_68_12 (t : TS) : ∀ x : Int32, ab_pf (mk t) 68 8 12 (.int x) = some (mkW (sI (sW t) 68 12 x)) := pf_68_12 (sW t)
theorem g_68_13 (t : TS) : ab_gf (mk t) 68 8 13 = some (.int (jI (tI t 68 13))) := rfl
theorem p_68_13 (t : TS) : ∀ x : Int32, ab_pf (mk t) 68 8 13 (.int x) = some (mkW (sI (sW t) 68 13 x)) := pf_68_13 (sW t)
theorem g_68_14 (t : TS) : ab_gf (mk t) 68 8 14 = some (.int (jI (tI t 68 14))) := rfl
theorem p_68_14 (t : TS) : ∀ x : Int32, ab_pf (mk t) 68 8 14 (.int x) = some (mkW (sI (sW t) 68 14 x)) := pf_68_14 (sW t)
theorem g_68_15 (t : TS) : ab_gf (mk t) 68 8 15 = some (.int (jI (tI t 68 15))) := rfl
theorem p_68_15 (t : TS) : ∀ x : Int32, ab_pf (mk t) 68 8 15 (.int x) = some (mkW (sI (sW t) 68 15 x)) := pf_68_15 (sW t)
theorem g_68_16 (t : TS) : ab_gf (mk t) 68 8 16 = some (.ref 76) := rfl
theorem g_68_17 (t : TS) : ab_gf (mk t) 68 8 17 = some (.ref 77) := rfl
theorem g_68_18 (t : TS) : ab_gf (mk t) 68 8 18 = some (.ref 78) := rfl
theorem g_68_19 (t : TS) : ab_gf (mk t) 68 8 19 = some (.int (jI (tI t 68 19))) := rfl
theorem p_68_19 (t : TS) : ∀ x : Int32, ab_pf (mk t) 68 8 19 (.int x) = some (mkW (sI (sW t) 68 19 x)) := pf_68_19 (sW t)
theorem g_68_20 (t : TS) : ab_gf (mk t) 68 8 20 = some (.int (jI (tI t 68 20))) := rfl
theorem p_68_20 (t : TS) : ∀ x : Int32, ab_pf (mk t) 68 8 20 (.int x) = some (mkW (sI (sW t) 68 20 x)) := pf_68_20 (sW t)
theorem g_68_21 (t : TS) : ab_gf (mk t) 68 8 21 = some (.ref 79) := rfl
theorem g_68_22 (t : TS) : ab_gf (mk t) 68 8 22 = some (.int (jI (tI t 68 22))) := rfl
theorem p_68_22 (t : TS) : ∀ x : Int32, ab_pf (mk t) 68 8 22 (.int x) = some (mkW (sI (sW t) 68 22 x)) := pf_68_22 (sW t)
theorem g_68_23 (t : TS) : ab_gf (mk t) 68 8 23 = some (.ref 80) := rfl
theorem g_68_24 (t : TS) : ab_gf (mk t) 68 8 24 = some (.ref 81) := rfl
theorem g_68_25 (t : TS) : ab_gf (mk t) 68 8 25 = some (.ref 82) := rfl
theorem g_68_26 (t : TS) : ab_gf (mk t) 68 8 26 = some (.ref 83) := rfl
theorem g_68_27 (t : TS) : ab_gf (mk t) 68 8 27 = some (.ref 84) := rfl
theorem g_68_28 (t : TS) : ab_gf (mk t) 68 8 28 = some (.ref 85) := rfl
theorem g_68_29 (t : TS) : ab_gf (mk t) 68 8 29 = some (.ref 86) := rfl
theorem g_68_30 (t : TS) : ab_gf (mk t) 68 8 30 = some (.ref 87) := rfl
theorem g_68_31 (t : TS) : ab_gf (mk t) 68 8 31 = some (.ref 88) := rfl
theorem g_68_32 (t : TS) : ab_gf (mk t) 68 8 32 = some (.ref 89) := rfl
theorem g_68_33 (t : TS) : ab_gf (mk t) 68 8 33 = some (.ref 90) := rfl
theorem g_68_34 (t : TS) : ab_gf (mk t) 68 8 34 = some (.ref 91) := rfl
theorem g_68_35 (t : TS) : ab_gf (mk t) 68 8 35 = some (.int (jI (tI t 68 35))) := rfl
theorem p_68_35 (t : TS) : ∀ x : Int32, ab_pf (mk t) 68 8 35 (.int x) = some (mkW (sI (sW t) 68 35 x)) := pf_68_35 (sW t)
theorem oj_68 (t : TS) : ∃ fs, (mk t)[68]? = some (.inl (8, fs)) := ⟨_, rfl⟩
theorem ai_2 (t : TS) : AI 2 0 12 t := ⟨rfl, wa_2 (sW t), rfl, by decide⟩
theorem ae_2 (i : Nat) : AR 2 i = (0, 5) := rfl
theorem ai_3 (t : TS) : AI 3 0 12 t := ⟨rfl, wa_3 (sW t), rfl, by decide⟩
theorem ae_3 (i : Nat) : AR 3 i = (0, 6) := rfl
theorem ai_4 (t : TS) : AI 4 0 12 t := ⟨rfl, wa_4 (sW t), rfl, by decide⟩
theorem ae_4 (i : Nat) : AR 4 i = (0, 6) := rfl
theorem ai_5 (t : TS) : AI 5 0 12 t := ⟨rfl, wa_5 (sW t), rfl, by decide⟩
theorem ae_5 (i : Nat) : AR 5 i = (0, 13) := rfl
theorem ai_6 (t : TS) : AI 6 0 12 t := ⟨rfl, wa_6 (sW t), rfl, by decide⟩
theorem ae_6 (i : Nat) : AR 6 i = (0, 1) := rfl
theorem ai_7 (t : TS) : AI 7 0 12 t := ⟨rfl, wa_7 (sW t), rfl, by decide⟩
theorem ae_7 (i : Nat) : AR 7 i = ((-1), 11) := rfl
theorem ai_8 (t : TS) : AI 8 0 24 t := ⟨rfl, wa_8 (sW t), rfl, by decide⟩
theorem ae_8 (i : Nat) : AR 8 i = (0, 99) := rfl
theorem ai_9 (t : TS) : AI 9 0 96 t := ⟨rfl, wa_9 (sW t), rfl, by decide⟩
theorem ae_9 (i : Nat) : AR 9 i = (0, 99) := rfl
theorem ai_11 (t : TS) : AI 11 0 3 t := ⟨rfl, wa_11 (sW t), rfl, by decide⟩
theorem ae_11 (i : Nat) : AR 11 i = ((-1), 13) := rfl
theorem ai_13 (t : TS) : AI 13 0 12 t := ⟨rfl, wa_13 (sW t), rfl, by decide⟩
theorem ae_13 (i : Nat) : AR 13 i = (0, 5) := rfl
theorem ai_14 (t : TS) : AI 14 0 12 t := ⟨rfl, wa_14 (sW t), rfl, by decide⟩
theorem ae_14 (i : Nat) : AR 14 i = (0, 6) := rfl
theorem ai_15 (t : TS) : AI 15 0 12 t := ⟨rfl, wa_15 (sW t), rfl, by decide⟩
theorem ae_15 (i : Nat) : AR 15 i = (0, 6) := rfl
theorem ai_16 (t : TS) : AI 16 0 12 t := ⟨rfl, wa_16 (sW t), rfl, by decide⟩
theorem ae_16 (i : Nat) : AR 16 i = (0, 13) := rfl
theorem ai_17 (t : TS) : AI 17 0 12 t := ⟨rfl, wa_17 (sW t), rfl, by decide⟩
theorem ae_17 (i : Nat) : AR 17 i = (0, 1) := rfl
theorem ai_18 (t : TS) : AI 18 0 12 t := ⟨rfl, wa_18 (sW t), rfl, by decide⟩
theorem ae_18 (i : Nat) : AR 18 i = ((-1), 11) := rfl
theorem ai_19 (t : TS) : AI 19 0 24 t := ⟨rfl, wa_19 (sW t), rfl, by decide⟩
theorem ae_19 (i : Nat) : AR 19 i = (0, 99) := rfl
theorem ai_20 (t : TS) : AI 20 0 96 t := ⟨rfl, wa_20 (sW t), rfl, by decide⟩
theorem ae_20 (i : Nat) : AR 20 i = (0, 99) := rfl
theorem ai_22 (t : TS) : AI 22 0 3 t := ⟨rfl, wa_22 (sW t), rfl, by decide⟩
theorem ae_22 (i : Nat) : AR 22 i = ((-1), 13) := rfl
theorem ai_25 (t : TS) : AI 25 0 12 t := ⟨rfl, wa_25 (sW t), rfl, by decide⟩
theorem ae_25 (i : Nat) : AR 25 i = (0, 5) := rfl
theorem ai_26 (t : TS) : AI 26 0 12 t := ⟨rfl, wa_26 (sW t), rfl, by decide⟩
theorem ae_26 (i : Nat) : AR 26 i = (0, 6) := rfl
theorem ai_27 (t : TS) : AI 27 0 12 t := ⟨rfl, wa_27 (sW t), rfl, by decide⟩
theorem ae_27 (i : Nat) : AR 27 i = (0, 6) := rfl
theorem ai_28 (t : TS) : AI 28 0 12 t := ⟨rfl, wa_28 (sW t), rfl, by decide⟩
theorem ae_28 (i : Nat) : AR 28 i = (0, 13) := rfl
theorem ai_29 (t : TS) : AI 29 0 12 t := ⟨rfl, wa_29 (sW t), rfl, by decide⟩
theorem ae_29 (i : Nat) : AR 29 i = (0, 1) := rfl
theorem ai_30 (t : TS) : AI 30 0 12 t := ⟨rfl, wa_30 (sW t), rfl, by decide⟩
theorem ae_30 (i : Nat) : AR 30 i = ((-1), 11) := rfl
theorem ai_31 (t : TS) : AI 31 0 24 t := ⟨rfl, wa_31 (sW t), rfl, by decide⟩
theorem ae_31 (i : Nat) : AR 31 i = (0, 99) := rfl
theorem ai_32 (t : TS) : AI 32 0 96 t := ⟨rfl, wa_32 (sW t), rfl, by decide⟩
theorem ae_32 (i : Nat) : AR 32 i = (0, 99) := rfl
theorem ai_34 (t : TS) : AI 34 0 3 t := ⟨rfl, wa_34 (sW t), rfl, by decide⟩
theorem ae_34 (i : Nat) : AR 34 i = ((-1), 13) := rfl
theorem ai_35 (t : TS) : AI 35 0 64 t := ⟨rfl, wa_35 (sW t), rfl, by decide⟩
theorem ae_35 (i : Nat) : AR 35 i = (-2147483648, 2147483647) := rfl
theorem ai_36 (t : TS) : AI 36 0 6 t := ⟨rfl, wa_36 (sW t), rfl, by decide⟩
theorem ae_36 (i : Nat) : AR 36 i = (0, 3200) := rfl
theorem ai_38 (t : TS) : AI 38 0 96 t := ⟨rfl, wa_38 (sW t), rfl, by decide⟩
theorem ae_38 (i : Nat) : AR 38 i = (0, 255) := rfl
theorem ai_40 (t : TS) : AI 40 0 96 t := ⟨rfl, wa_40 (sW t), rfl, by decide⟩
theorem ae_40 (i : Nat) : AR 40 i = (0, 255) := rfl
theorem ai_41 (t : TS) : AI 41 0 96 t := ⟨rfl, wa_41 (sW t), rfl, by decide⟩
theorem ae_41 (i : Nat) : AR 41 i = (-2147483648, 2147483647) := rfl
theorem ai_44 (t : TS) : AI 44 0 60 t := ⟨rfl, wa_44 (sW t), rfl, by decide⟩
theorem ae_44 (i : Nat) : AR 44 i = (-2147483648, 2147483647) := rfl
theorem ai_46 (t : TS) : AI 46 0 24 t := ⟨rfl, wa_46 (sW t), rfl, by decide⟩
theorem ai_48 (t : TS) : AI 48 0 24 t := ⟨rfl, wa_48 (sW t), rfl, by decide⟩
theorem ai_50 (t : TS) : AI 50 0 24 t := ⟨rfl, wa_50 (sW t), rfl, by decide⟩
theorem ai_52 (t : TS) : AI 52 0 24 t := ⟨rfl, wa_52 (sW t), rfl, by decide⟩
theorem ai_55 (t : TS) : AI 55 0 24 t := ⟨rfl, wa_55 (sW t), rfl, by decide⟩
theorem ai_58 (t : TS) : AI 58 0 24 t := ⟨rfl, wa_58 (sW t), rfl, by decide⟩
theorem ai_61 (t : TS) : AI 61 0 24 t := ⟨rfl, wa_61 (sW t), rfl, by decide⟩
theorem ai_64 (t : TS) : AI 64 0 24 t := ⟨rfl, wa_64 (sW t), rfl, by decide⟩
theorem ai_67 (t : TS) : AI 67 0 24 t := ⟨rfl, wa_67 (sW t), rfl, by decide⟩
theorem ai_69 (t : TS) : AI 69 0 1461 t := by
  have h0 : ∀ s : ST, ab_ia (mkW s) 69 0 = some (s.2.1 69) := fun s => rfl
  have h : ab_ia (mk t) 69 0 = some ((sW t).2.1 69) := h0 (sW t)
  rw [sW_A] at h
  have e : LEN 69 = 1461 := rfl
  rw [e] at h
  exact ⟨h, wa_69 (sW t), e, by decide⟩
theorem ae_69 (i : Nat) : AR 69 i = ((nR i).1, (nR i).2) := rfl
theorem ai_70 (t : TS) : AI 70 0 1461 t := by
  have h0 : ∀ s : ST, ab_ia (mkW s) 70 0 = some (s.2.1 70) := fun s => rfl
  have h : ab_ia (mk t) 70 0 = some ((sW t).2.1 70) := h0 (sW t)
  rw [sW_A] at h
  have e : LEN 70 = 1461 := rfl
  rw [e] at h
  exact ⟨h, wa_70 (sW t), e, by decide⟩
theorem ae_70 (i : Nat) : AR 70 i = ((nR i).1, (nR i).2) := rfl
theorem ai_71 (t : TS) : AI 71 0 1461 t := by
  have h0 : ∀ s : ST, ab_ia (mkW s) 71 0 = some (s.2.1 71) := fun s => rfl
  have h : ab_ia (mk t) 71 0 = some ((sW t).2.1 71) := h0 (sW t)
  rw [sW_A] at h
  have e : LEN 71 = 1461 := rfl
  rw [e] at h
  exact ⟨h, wa_71 (sW t), e, by decide⟩
theorem ae_71 (i : Nat) : AR 71 i = ((nR i).1, (nR i).2) := rfl
theorem ai_72 (t : TS) : AI 72 0 4096 t := by
  have h0 : ∀ s : ST, ab_ia (mkW s) 72 0 = some (s.2.1 72) := fun s => rfl
  have h : ab_ia (mk t) 72 0 = some ((sW t).2.1 72) := h0 (sW t)
  rw [sW_A] at h
  have e : LEN 72 = 4096 := rfl
  rw [e] at h
  exact ⟨h, wa_72 (sW t), e, by decide⟩
theorem ae_72 (i : Nat) : AR 72 i = (-2147483648, 2147483647) := rfl
theorem ai_73 (t : TS) : AI 73 0 144 t := ⟨rfl, wa_73 (sW t), rfl, by decide⟩
theorem ae_73 (i : Nat) : AR 73 i = (0, 198) := rfl
theorem ai_74 (t : TS) : AI 74 0 89 t := ⟨rfl, wa_74 (sW t), rfl, by decide⟩
theorem ae_74 (i : Nat) : AR 74 i = ((nR i).1, (nR i).2) := rfl
theorem ai_75 (t : TS) : AI 75 0 96 t := ⟨rfl, wa_75 (sW t), rfl, by decide⟩
theorem ae_75 (i : Nat) : AR 75 i = (0, 255) := rfl
theorem ai_76 (t : TS) : AI 76 1 11 t := ⟨rfl, wa_76 (sW t), rfl, by decide⟩
theorem ae_76 (i : Nat) : AR 76 i = (97, 122) := rfl
theorem ai_77 (t : TS) : AI 77 0 4 t := ⟨rfl, wa_77 (sW t), rfl, by decide⟩
theorem ae_77 (i : Nat) : AR 77 i = ((kR i).1, (kR i).2) := rfl
theorem ai_78 (t : TS) : AI 78 0 96 t := ⟨rfl, wa_78 (sW t), rfl, by decide⟩
theorem ae_78 (i : Nat) : AR 78 i = ((-10), 10002) := rfl
theorem ai_79 (t : TS) : AI 79 0 96 t := ⟨rfl, wa_79 (sW t), rfl, by decide⟩
theorem ae_79 (i : Nat) : AR 79 i = ((-11), 0) := rfl
theorem ai_80 (t : TS) : AI 80 2 10 t := ⟨rfl, wa_80 (sW t), rfl, by decide⟩
theorem ae_80 (i : Nat) : AR 80 i = (0, 1) := rfl
theorem ai_81 (t : TS) : AI 81 0 96 t := ⟨rfl, wa_81 (sW t), rfl, by decide⟩
theorem ae_81 (i : Nat) : AR 81 i = (-2147483648, 2147483647) := rfl
theorem ai_82 (t : TS) : AI 82 0 4 t := ⟨rfl, wa_82 (sW t), rfl, by decide⟩
theorem ae_82 (i : Nat) : AR 82 i = (-2147483648, 2147483647) := rfl
theorem ai_83 (t : TS) : AI 83 0 4 t := ⟨rfl, wa_83 (sW t), rfl, by decide⟩
theorem ae_83 (i : Nat) : AR 83 i = ((-1), 1) := rfl
theorem ai_84 (t : TS) : AI 84 0 4 t := ⟨rfl, wa_84 (sW t), rfl, by decide⟩
theorem ae_84 (i : Nat) : AR 84 i = (0, 24) := rfl
theorem ai_85 (t : TS) : AI 85 0 96 t := ⟨rfl, wa_85 (sW t), rfl, by decide⟩
theorem ae_85 (i : Nat) : AR 85 i = (-2147483648, 2147483647) := rfl
theorem ai_86 (t : TS) : AI 86 0 5 t := ⟨rfl, wa_86 (sW t), rfl, by decide⟩
theorem ae_86 (i : Nat) : AR 86 i = (0, 3) := rfl
theorem ai_87 (t : TS) : AI 87 0 5 t := ⟨rfl, wa_87 (sW t), rfl, by decide⟩
theorem ae_87 (i : Nat) : AR 87 i = (-2147483648, 2147483647) := rfl
theorem ai_88 (t : TS) : AI 88 0 5 t := ⟨rfl, wa_88 (sW t), rfl, by decide⟩
theorem ae_88 (i : Nat) : AR 88 i = ((-5), 200) := rfl
theorem ai_89 (t : TS) : AI 89 0 120 t := ⟨rfl, wa_89 (sW t), rfl, by decide⟩
theorem ae_89 (i : Nat) : AR 89 i = (-2147483648, 2147483647) := rfl
theorem ai_90 (t : TS) : AI 90 0 24 t := ⟨rfl, wa_90 (sW t), rfl, by decide⟩
theorem ae_90 (i : Nat) : AR 90 i = (-2147483648, 2147483647) := rfl
theorem ai_91 (t : TS) : AI 91 0 60 t := ⟨rfl, wa_91 (sW t), rfl, by decide⟩
theorem ae_91 (i : Nat) : AR 91 i = (-2147483648, 2147483647) := rfl
theorem fe_0_8 : FR 0 8 = (0, 60) := rfl
theorem fe_0_9 : FR 0 9 = (0, 1) := rfl
theorem fe_1_10 : FR 1 10 = (0, 12) := rfl
theorem fe_1_11 : FR 1 11 = (0, 14) := rfl
theorem fe_1_12 : FR 1 12 = (0, 100) := rfl
theorem fe_1_13 : FR 1 13 = (-2147483648, 2147483647) := rfl
theorem fe_1_14 : FR 1 14 = (-2147483648, 2147483647) := rfl
theorem fe_12_10 : FR 12 10 = (0, 12) := rfl
theorem fe_12_11 : FR 12 11 = (0, 14) := rfl
theorem fe_12_12 : FR 12 12 = (0, 100) := rfl
theorem fe_12_13 : FR 12 13 = (-2147483648, 2147483647) := rfl
theorem fe_12_14 : FR 12 14 = (-2147483648, 2147483647) := rfl
theorem fe_24_10 : FR 24 10 = (0, 12) := rfl
theorem fe_24_11 : FR 24 11 = (0, 14) := rfl
theorem fe_24_12 : FR 24 12 = (0, 100) := rfl
theorem fe_24_13 : FR 24 13 = (-2147483648, 2147483647) := rfl
theorem fe_24_14 : FR 24 14 = (-2147483648, 2147483647) := rfl
theorem fe_37_1 : FR 37 1 = (0, 96) := rfl
theorem fe_39_0 : FR 39 0 = ((-1), 96) := rfl
theorem fe_39_4 : FR 39 4 = (0, 96) := rfl
theorem fe_39_5 : FR 39 5 = (0, 96) := rfl
theorem fe_39_7 : FR 39 7 = (0, 3) := rfl
theorem fe_39_8 : FR 39 8 = (0, 96) := rfl
theorem fe_39_9 : FR 39 9 = (0, 96) := rfl
theorem fe_39_10 : FR 39 10 = (0, 1) := rfl
theorem fe_68_3 : FR 68 3 = (0, 1) := rfl
theorem fe_68_4 : FR 68 4 = ((-1), 11) := rfl
theorem fe_68_9 : FR 68 9 = (0, 96) := rfl
theorem fe_68_10 : FR 68 10 = (0, 96) := rfl
theorem fe_68_11 : FR 68 11 = (0, 96) := rfl
theorem fe_68_12 : FR 68 12 = (0, 4) := rfl
theorem fe_68_13 : FR 68 13 = (0, 9999) := rfl
theorem fe_68_14 : FR 68 14 = ((-1), 96) := rfl
theorem fe_68_15 : FR 68 15 = (0, 2) := rfl
theorem fe_68_19 : FR 68 19 = (0, 96) := rfl
theorem fe_68_20 : FR 68 20 = (0, 96) := rfl
theorem fe_68_22 : FR 68 22 = (0, 96) := rfl
theorem fe_68_35 : FR 68 35 = (0, 60) := rfl
theorem gT_0 {b : Nat} (hb : isT b) (t : TS) : ab_gf (mk t) b 3 0 = some (.ref (b + 1)) := by rcases hb with rfl | rfl | rfl <;> rfl
theorem gT_1 {b : Nat} (hb : isT b) (t : TS) : ab_gf (mk t) b 3 1 = some (.ref (b + 2)) := by rcases hb with rfl | rfl | rfl <;> rfl
theorem gT_2 {b : Nat} (hb : isT b) (t : TS) : ab_gf (mk t) b 3 2 = some (.ref (b + 3)) := by rcases hb with rfl | rfl | rfl <;> rfl
theorem gT_3 {b : Nat} (hb : isT b) (t : TS) : ab_gf (mk t) b 3 3 = some (.ref (b + 4)) := by rcases hb with rfl | rfl | rfl <;> rfl
theorem gT_4 {b : Nat} (hb : isT b) (t : TS) : ab_gf (mk t) b 3 4 = some (.ref (b + 5)) := by rcases hb with rfl | rfl | rfl <;> rfl
theorem gT_5 {b : Nat} (hb : isT b) (t : TS) : ab_gf (mk t) b 3 5 = some (.ref (b + 6)) := by rcases hb with rfl | rfl | rfl <;> rfl
theorem gT_6 {b : Nat} (hb : isT b) (t : TS) : ab_gf (mk t) b 3 6 = some (.ref (b + 7)) := by rcases hb with rfl | rfl | rfl <;> rfl
theorem gT_7 {b : Nat} (hb : isT b) (t : TS) : ab_gf (mk t) b 3 7 = some (.ref (b + 8)) := by rcases hb with rfl | rfl | rfl <;> rfl
theorem gT_8 {b : Nat} (hb : isT b) (t : TS) : ab_gf (mk t) b 3 8 = some (.ref (b + 9)) := by rcases hb with rfl | rfl | rfl <;> rfl
theorem gT_9 {b : Nat} (hb : isT b) (t : TS) : ab_gf (mk t) b 3 9 = some (.ref (b + 10)) := by rcases hb with rfl | rfl | rfl <;> rfl
theorem gT_10 {b : Nat} (hb : isT b) (t : TS) : ab_gf (mk t) b 3 10 = some (.int (jI (tI t b 10))) := by rcases hb with rfl | rfl | rfl <;> rfl
theorem pT_10 {b : Nat} (hb : isT b) (t : TS) : ∀ x : Int32, ab_pf (mk t) b 3 10 (.int x) = some (mkW (sI (sW t) b 10 x)) := by
  intro x
  rcases hb with rfl | rfl | rfl
  · exact pf_1_10 (sW t) x
  · exact pf_12_10 (sW t) x
  · exact pf_24_10 (sW t) x
theorem feT_10 {b : Nat} (hb : isT b) : FR b 10 = (0, 12) := by rcases hb with rfl | rfl | rfl <;> rfl
theorem gT_11 {b : Nat} (hb : isT b) (t : TS) : ab_gf (mk t) b 3 11 = some (.int (jI (tI t b 11))) := by rcases hb with rfl | rfl | rfl <;> rfl
theorem pT_11 {b : Nat} (hb : isT b) (t : TS) : ∀ x : Int32, ab_pf (mk t) b 3 11 (.int x) = some (mkW (sI (sW t) b 11 x)) := by
  intro x
  rcases hb with rfl | rfl | rfl
  · exact pf_1_11 (sW t) x
  · exact pf_12_11 (sW t) x
  · exact pf_24_11 (sW t) x
theorem feT_11 {b : Nat} (hb : isT b) : FR b 11 = (0, 14) := by rcases hb with rfl | rfl | rfl <;> rfl
theorem gT_12 {b : Nat} (hb : isT b) (t : TS) : ab_gf (mk t) b 3 12 = some (.int (jI (tI t b 12))) := by rcases hb with rfl | rfl | rfl <;> rfl
theorem feT_12 {b : Nat} (hb : isT b) : FR b 12 = (0, 100) := by rcases hb with rfl | rfl | rfl <;> rfl
theorem gT_13 {b : Nat} (hb : isT b) (t : TS) : ab_gf (mk t) b 3 13 = some (.int (jI (tI t b 13))) := by rcases hb with rfl | rfl | rfl <;> rfl
theorem pT_13 {b : Nat} (hb : isT b) (t : TS) : ∀ x : Int32, ab_pf (mk t) b 3 13 (.int x) = some (mkW (sI (sW t) b 13 x)) := by
  intro x
  rcases hb with rfl | rfl | rfl
  · exact pf_1_13 (sW t) x
  · exact pf_12_13 (sW t) x
  · exact pf_24_13 (sW t) x
theorem feT_13 {b : Nat} (hb : isT b) : FR b 13 = (-2147483648, 2147483647) := by rcases hb with rfl | rfl | rfl <;> rfl
theorem gT_14 {b : Nat} (hb : isT b) (t : TS) : ab_gf (mk t) b 3 14 = some (.int (jI (tI t b 14))) := by rcases hb with rfl | rfl | rfl <;> rfl
theorem pT_14 {b : Nat} (hb : isT b) (t : TS) : ∀ x : Int32, ab_pf (mk t) b 3 14 (.int x) = some (mkW (sI (sW t) b 14 x)) := by
  intro x
  rcases hb with rfl | rfl | rfl
  · exact pf_1_14 (sW t) x
  · exact pf_12_14 (sW t) x
  · exact pf_24_14 (sW t) x
theorem feT_14 {b : Nat} (hb : isT b) : FR b 14 = (-2147483648, 2147483647) := by rcases hb with rfl | rfl | rfl <;> rfl
theorem ojT {b : Nat} (hb : isT b) (t : TS) : ∃ fs, (mk t)[b]? = some (.inl (3, fs)) := by rcases hb with rfl | rfl | rfl <;> exact ⟨_, rfl⟩
theorem aiT_1 {b : Nat} (hb : isT b) (t : TS) : AI (b + 1) 0 12 t := by
  rcases hb with rfl | rfl | rfl
  · exact ai_2 t
  · exact ai_13 t
  · exact ai_25 t
theorem aeT_1 {b : Nat} (hb : isT b) (i : Nat) : AR (b + 1) i = (0, 5) := by rcases hb with rfl | rfl | rfl <;> rfl
theorem aiT_2 {b : Nat} (hb : isT b) (t : TS) : AI (b + 2) 0 12 t := by
  rcases hb with rfl | rfl | rfl
  · exact ai_3 t
  · exact ai_14 t
  · exact ai_26 t
theorem aeT_2 {b : Nat} (hb : isT b) (i : Nat) : AR (b + 2) i = (0, 6) := by rcases hb with rfl | rfl | rfl <;> rfl
theorem aiT_3 {b : Nat} (hb : isT b) (t : TS) : AI (b + 3) 0 12 t := by
  rcases hb with rfl | rfl | rfl
  · exact ai_4 t
  · exact ai_15 t
  · exact ai_27 t
theorem aeT_3 {b : Nat} (hb : isT b) (i : Nat) : AR (b + 3) i = (0, 6) := by rcases hb with rfl | rfl | rfl <;> rfl
theorem aiT_4 {b : Nat} (hb : isT b) (t : TS) : AI (b + 4) 0 12 t := by
  rcases hb with rfl | rfl | rfl
  · exact ai_5 t
  · exact ai_16 t
  · exact ai_28 t
theorem aeT_4 {b : Nat} (hb : isT b) (i : Nat) : AR (b + 4) i = (0, 13) := by rcases hb with rfl | rfl | rfl <;> rfl
theorem aiT_5 {b : Nat} (hb : isT b) (t : TS) : AI (b + 5) 0 12 t := by
  rcases hb with rfl | rfl | rfl
  · exact ai_6 t
  · exact ai_17 t
  · exact ai_29 t
theorem aeT_5 {b : Nat} (hb : isT b) (i : Nat) : AR (b + 5) i = (0, 1) := by rcases hb with rfl | rfl | rfl <;> rfl
theorem aiT_6 {b : Nat} (hb : isT b) (t : TS) : AI (b + 6) 0 12 t := by
  rcases hb with rfl | rfl | rfl
  · exact ai_7 t
  · exact ai_18 t
  · exact ai_30 t
theorem aeT_6 {b : Nat} (hb : isT b) (i : Nat) : AR (b + 6) i = ((-1), 11) := by rcases hb with rfl | rfl | rfl <;> rfl
theorem aiT_7 {b : Nat} (hb : isT b) (t : TS) : AI (b + 7) 0 24 t := by
  rcases hb with rfl | rfl | rfl
  · exact ai_8 t
  · exact ai_19 t
  · exact ai_31 t
theorem aeT_7 {b : Nat} (hb : isT b) (i : Nat) : AR (b + 7) i = (0, 99) := by rcases hb with rfl | rfl | rfl <;> rfl
theorem aiT_8 {b : Nat} (hb : isT b) (t : TS) : AI (b + 8) 0 96 t := by
  rcases hb with rfl | rfl | rfl
  · exact ai_9 t
  · exact ai_20 t
  · exact ai_32 t
theorem aeT_8 {b : Nat} (hb : isT b) (i : Nat) : AR (b + 8) i = (0, 99) := by rcases hb with rfl | rfl | rfl <;> rfl
theorem aiT_10 {b : Nat} (hb : isT b) (t : TS) : AI (b + 10) 0 3 t := by
  rcases hb with rfl | rfl | rfl
  · exact ai_11 t
  · exact ai_22 t
  · exact ai_34 t
theorem aeT_10 {b : Nat} (hb : isT b) (i : Nat) : AR (b + 10) i = ((-1), 13) := by rcases hb with rfl | rfl | rfl <;> rfl
theorem gH_0 {b : Nat} (hb : isH b) (t : TS) : ab_gf (mk t) b 1 0 = some (.ref (b + 1)) := by rcases hb with rfl | rfl | rfl | rfl | rfl | rfl | rfl | rfl | rfl <;> rfl
theorem gH_1 {b : Nat} (hb : isH b) (t : TS) : ab_gf (mk t) b 1 1 = some (.int (jI (tI t b 1))) := by rcases hb with rfl | rfl | rfl | rfl | rfl | rfl | rfl | rfl | rfl <;> rfl
theorem pH_1 {b : Nat} (hb : isH b) (t : TS) : ∀ x : Int32, ab_pf (mk t) b 1 1 (.int x) = some (mkW (sI (sW t) b 1 x)) := by
  intro x
  rcases hb with rfl | rfl | rfl | rfl | rfl | rfl | rfl | rfl | rfl
  · exact pf_45_1 (sW t) x
  · exact pf_47_1 (sW t) x
  · exact pf_49_1 (sW t) x
  · exact pf_51_1 (sW t) x
  · exact pf_54_1 (sW t) x
  · exact pf_57_1 (sW t) x
  · exact pf_60_1 (sW t) x
  · exact pf_63_1 (sW t) x
  · exact pf_66_1 (sW t) x
theorem feH_1 {b : Nat} (hb : isH b) : FR b 1 = ((-1), 1) := by rcases hb with rfl | rfl | rfl | rfl | rfl | rfl | rfl | rfl | rfl <;> rfl
theorem gH_2 {b : Nat} (hb : isH b) (t : TS) : ab_gf (mk t) b 1 2 = some (.int (jI (tI t b 2))) := by rcases hb with rfl | rfl | rfl | rfl | rfl | rfl | rfl | rfl | rfl <;> rfl
theorem pH_2 {b : Nat} (hb : isH b) (t : TS) : ∀ x : Int32, ab_pf (mk t) b 1 2 (.int x) = some (mkW (sI (sW t) b 2 x)) := by
  intro x
  rcases hb with rfl | rfl | rfl | rfl | rfl | rfl | rfl | rfl | rfl
  · exact pf_45_2 (sW t) x
  · exact pf_47_2 (sW t) x
  · exact pf_49_2 (sW t) x
  · exact pf_51_2 (sW t) x
  · exact pf_54_2 (sW t) x
  · exact pf_57_2 (sW t) x
  · exact pf_60_2 (sW t) x
  · exact pf_63_2 (sW t) x
  · exact pf_66_2 (sW t) x
theorem feH_2 {b : Nat} (hb : isH b) : FR b 2 = (0, 24) := by rcases hb with rfl | rfl | rfl | rfl | rfl | rfl | rfl | rfl | rfl <;> rfl
theorem ojH {b : Nat} (hb : isH b) (t : TS) : ∃ fs, (mk t)[b]? = some (.inl (1, fs)) := by rcases hb with rfl | rfl | rfl | rfl | rfl | rfl | rfl | rfl | rfl <;> exact ⟨_, rfl⟩
theorem aiH_1 {b : Nat} (hb : isH b) (t : TS) : AI (b + 1) 0 24 t := by
  rcases hb with rfl | rfl | rfl | rfl | rfl | rfl | rfl | rfl | rfl
  · exact ai_46 t
  · exact ai_48 t
  · exact ai_50 t
  · exact ai_52 t
  · exact ai_55 t
  · exact ai_58 t
  · exact ai_61 t
  · exact ai_64 t
  · exact ai_67 t
theorem aeH_1 {b : Nat} (hb : isH b) (i : Nat) : AR (b + 1) i = (-2147483648, 2147483647) := by rcases hb with rfl | rfl | rfl | rfl | rfl | rfl | rfl | rfl | rfl <;> rfl
theorem gL_0 {b : Nat} (hb : isL b) (t : TS) : ab_gf (mk t) b 2 0 = some (.ref (b + 1)) := by rcases hb with rfl | rfl | rfl | rfl | rfl <;> rfl
theorem gL_1 {b : Nat} (hb : isL b) (t : TS) : ab_gf (mk t) b 2 1 = some (.int (jI (tI t b 1))) := by rcases hb with rfl | rfl | rfl | rfl | rfl <;> rfl
theorem pL_1 {b : Nat} (hb : isL b) (t : TS) : ∀ x : Int32, ab_pf (mk t) b 2 1 (.int x) = some (mkW (sI (sW t) b 1 x)) := by
  intro x
  rcases hb with rfl | rfl | rfl | rfl | rfl
  · exact pf_53_1 (sW t) x
  · exact pf_56_1 (sW t) x
  · exact pf_59_1 (sW t) x
  · exact pf_62_1 (sW t) x
  · exact pf_65_1 (sW t) x
theorem feL_1 {b : Nat} (hb : isL b) : FR b 1 = (0, 3) := by rcases hb with rfl | rfl | rfl | rfl | rfl <;> rfl
theorem gL_2 {b : Nat} (hb : isL b) (t : TS) : ab_gf (mk t) b 2 2 = some (.int (jI (tI t b 2))) := by rcases hb with rfl | rfl | rfl | rfl | rfl <;> rfl
theorem pL_2 {b : Nat} (hb : isL b) (t : TS) : ∀ x : Int32, ab_pf (mk t) b 2 2 (.int x) = some (mkW (sI (sW t) b 2 x)) := by
  intro x
  rcases hb with rfl | rfl | rfl | rfl | rfl
  · exact pf_53_2 (sW t) x
  · exact pf_56_2 (sW t) x
  · exact pf_59_2 (sW t) x
  · exact pf_62_2 (sW t) x
  · exact pf_65_2 (sW t) x
theorem feL_2 {b : Nat} (hb : isL b) : FR b 2 = (0, 5) := by rcases hb with rfl | rfl | rfl | rfl | rfl <;> rfl
theorem gL_3 {b : Nat} (hb : isL b) (t : TS) : ab_gf (mk t) b 2 3 = some (.int (jI (tI t b 3))) := by rcases hb with rfl | rfl | rfl | rfl | rfl <;> rfl
theorem pL_3 {b : Nat} (hb : isL b) (t : TS) : ∀ x : Int32, ab_pf (mk t) b 2 3 (.int x) = some (mkW (sI (sW t) b 3 x)) := by
  intro x
  rcases hb with rfl | rfl | rfl | rfl | rfl
  · exact pf_53_3 (sW t) x
  · exact pf_56_3 (sW t) x
  · exact pf_59_3 (sW t) x
  · exact pf_62_3 (sW t) x
  · exact pf_65_3 (sW t) x
theorem feL_3 {b : Nat} (hb : isL b) : FR b 3 = (0, 6) := by rcases hb with rfl | rfl | rfl | rfl | rfl <;> rfl
theorem gL_4 {b : Nat} (hb : isL b) (t : TS) : ab_gf (mk t) b 2 4 = some (.int (jI (tI t b 4))) := by rcases hb with rfl | rfl | rfl | rfl | rfl <;> rfl
theorem pL_4 {b : Nat} (hb : isL b) (t : TS) : ∀ x : Int32, ab_pf (mk t) b 2 4 (.int x) = some (mkW (sI (sW t) b 4 x)) := by
  intro x
  rcases hb with rfl | rfl | rfl | rfl | rfl
  · exact pf_53_4 (sW t) x
  · exact pf_56_4 (sW t) x
  · exact pf_59_4 (sW t) x
  · exact pf_62_4 (sW t) x
  · exact pf_65_4 (sW t) x
theorem feL_4 {b : Nat} (hb : isL b) : FR b 4 = (0, 6) := by rcases hb with rfl | rfl | rfl | rfl | rfl <;> rfl
theorem gL_5 {b : Nat} (hb : isL b) (t : TS) : ab_gf (mk t) b 2 5 = some (.int (jI (tI t b 5))) := by rcases hb with rfl | rfl | rfl | rfl | rfl <;> rfl
theorem pL_5 {b : Nat} (hb : isL b) (t : TS) : ∀ x : Int32, ab_pf (mk t) b 2 5 (.int x) = some (mkW (sI (sW t) b 5 x)) := by
  intro x
  rcases hb with rfl | rfl | rfl | rfl | rfl
  · exact pf_53_5 (sW t) x
  · exact pf_56_5 (sW t) x
  · exact pf_59_5 (sW t) x
  · exact pf_62_5 (sW t) x
  · exact pf_65_5 (sW t) x
theorem feL_5 {b : Nat} (hb : isL b) : FR b 5 = (-2147483648, 2147483647) := by rcases hb with rfl | rfl | rfl | rfl | rfl <;> rfl
theorem ojL {b : Nat} (hb : isL b) (t : TS) : ∃ fs, (mk t)[b]? = some (.inl (2, fs)) := by rcases hb with rfl | rfl | rfl | rfl | rfl <;> exact ⟨_, rfl⟩
theorem raT' {b : Nat} (hb : isT b) (t : TS) : ab_ra (mk t) (b + 9) 5 = some (rowT (tT t (b + 9))) := raT hb (sW t)
theorem isH_s {i : Nat} (h : i < 4) : isH (45 + 2 * i) := by unfold isH; omega
theorem isL_s {i : Nat} (h : i < 5) : isL (53 + 3 * i) := by unfold isL; omega
theorem isH_l {b : Nat} (h : isL b) : isH (b + 1) := by unfold isL at h; unfold isH; omega
theorem nr_W {i : Nat} (h : 5 ≤ i ∧ i < 29) : nR i = (0, 99) := by
  unfold nR
  rw [if_neg (by omega), if_pos (by omega)]
theorem nr_S0 {i s : Nat} (h : i = 29 + 5 * s ∧ s < 12) : nR i = (0, 5) := by
  unfold nR
  rw [if_neg (by omega), if_neg (by omega), if_pos (by omega), if_pos (by omega)]
theorem nr_S1 {i s : Nat} (h : i = 30 + 5 * s ∧ s < 12) : nR i = (0, 6) := by
  unfold nR
  rw [if_neg (by omega), if_neg (by omega), if_pos (by omega), if_neg (by omega), if_pos (by omega)]
theorem nr_S2 {i s : Nat} (h : i = 31 + 5 * s ∧ s < 12) : nR i = (0, 6) := by
  unfold nR
  rw [if_neg (by omega), if_neg (by omega), if_pos (by omega), if_neg (by omega), if_pos (by omega)]
theorem nr_S3 {i s : Nat} (h : i = 32 + 5 * s ∧ s < 12) : nR i = (0, 12) := by
  unfold nR
  rw [if_neg (by omega), if_neg (by omega), if_pos (by omega), if_neg (by omega), if_neg (by omega), if_pos (by omega)]
theorem nr_S4 {i s : Nat} (h : i = 33 + 5 * s ∧ s < 12) : nR i = (0, 1) := by
  unfold nR
  rw [if_neg (by omega), if_neg (by omega), if_pos (by omega), if_neg (by omega), if_neg (by omega), if_neg (by omega)]
theorem nr_T0 {i s : Nat} (h : i = 89 + 2 * s ∧ s < 14) : nR i = (0, 2095) := by
  unfold nR
  rw [if_neg (by omega), if_neg (by omega), if_neg (by omega), if_pos (by omega), if_pos (by omega)]
theorem nr_T1 {i s : Nat} (h : i = 90 + 2 * s ∧ s < 14) : nR i = (0, 96) := by
  unfold nR
  rw [if_neg (by omega), if_neg (by omega), if_neg (by omega), if_pos (by omega), if_neg (by omega)]
theorem nr_C {i : Nat} (h : 117 ≤ i) : nR i = (-10, 10002) := by
  unfold nR
  rw [if_neg (by omega), if_neg (by omega), if_neg (by omega), if_neg (by omega)]
theorem nr_0 : nR 0 = (-2147483648, 2147483647) := rfl
theorem nr_1 : nR 1 = (0, 12) := rfl
theorem nr_2 : nR 2 = (-2147483648, 2147483647) := rfl
theorem nr_3 : nR 3 = (0, 100) := rfl
theorem nr_4 : nR 4 = (0, 14) := rfl
theorem nr_jr (i : Nat) : -2147483648 ≤ (nR i).1 ∧ (nR i).2 ≤ 2147483647 := by
  unfold nR
  repeat' split
  all_goals exact ⟨by decide, by decide⟩
theorem ax_69 {i : Nat} {r : Int × Int} (h : nR i = r) : AR 69 i = r := h
theorem ax_70 {i : Nat} {r : Int × Int} (h : nR i = r) : AR 70 i = r := h
theorem kc_m1000000014 : ((-1000000014) : Int32) = jI (-1000000014) := by decide
theorem kc_m1000000013 : ((-1000000013) : Int32) = jI (-1000000013) := by decide
theorem kc_m1000000012 : ((-1000000012) : Int32) = jI (-1000000012) := by decide
theorem kc_m1000000011 : ((-1000000011) : Int32) = jI (-1000000011) := by decide
theorem kc_m1000000005 : ((-1000000005) : Int32) = jI (-1000000005) := by decide
theorem kc_m1000000003 : ((-1000000003) : Int32) = jI (-1000000003) := by decide
theorem kc_m1000000002 : ((-1000000002) : Int32) = jI (-1000000002) := by decide
theorem kc_m1000000001 : ((-1000000001) : Int32) = jI (-1000000001) := by decide
theorem kc_m99999 : ((-99999) : Int32) = jI (-99999) := by decide
theorem kc_m100 : ((-100) : Int32) = jI (-100) := by decide
theorem kc_m11 : ((-11) : Int32) = jI (-11) := by decide
theorem kc_m10 : ((-10) : Int32) = jI (-10) := by decide
theorem kc_m9 : ((-9) : Int32) = jI (-9) := by decide
theorem kc_m8 : ((-8) : Int32) = jI (-8) := by decide
theorem kc_m7 : ((-7) : Int32) = jI (-7) := by decide
theorem kc_m6 : ((-6) : Int32) = jI (-6) := by decide
theorem kc_m5 : ((-5) : Int32) = jI (-5) := by decide
theorem kc_m4 : ((-4) : Int32) = jI (-4) := by decide
theorem kc_m3 : ((-3) : Int32) = jI (-3) := by decide
theorem kc_m2 : ((-2) : Int32) = jI (-2) := by decide
theorem kc_m1 : ((-1) : Int32) = jI (-1) := by decide
theorem kc_0 : (0 : Int32) = jI 0 := by decide
theorem kc_1 : (1 : Int32) = jI 1 := by decide
theorem kc_2 : (2 : Int32) = jI 2 := by decide
theorem kc_3 : (3 : Int32) = jI 3 := by decide
theorem kc_4 : (4 : Int32) = jI 4 := by decide
theorem kc_5 : (5 : Int32) = jI 5 := by decide
theorem kc_6 : (6 : Int32) = jI 6 := by decide
theorem kc_7 : (7 : Int32) = jI 7 := by decide
theorem kc_8 : (8 : Int32) = jI 8 := by decide
theorem kc_10 : (10 : Int32) = jI 10 := by decide
theorem kc_11 : (11 : Int32) = jI 11 := by decide
theorem kc_12 : (12 : Int32) = jI 12 := by decide
theorem kc_13 : (13 : Int32) = jI 13 := by decide
theorem kc_14 : (14 : Int32) = jI 14 := by decide
theorem kc_15 : (15 : Int32) = jI 15 := by decide
theorem kc_16 : (16 : Int32) = jI 16 := by decide
theorem kc_23 : (23 : Int32) = jI 23 := by decide
theorem kc_24 : (24 : Int32) = jI 24 := by decide
theorem kc_29 : (29 : Int32) = jI 29 := by decide
theorem kc_30 : (30 : Int32) = jI 30 := by decide
theorem kc_32 : (32 : Int32) = jI 32 := by decide
theorem kc_33 : (33 : Int32) = jI 33 := by decide
theorem kc_40 : (40 : Int32) = jI 40 := by decide
theorem kc_41 : (41 : Int32) = jI 41 := by decide
theorem kc_48 : (48 : Int32) = jI 48 := by decide
theorem kc_57 : (57 : Int32) = jI 57 := by decide
theorem kc_60 : (60 : Int32) = jI 60 := by decide
theorem kc_63 : (63 : Int32) = jI 63 := by decide
theorem kc_89 : (89 : Int32) = jI 89 := by decide
theorem kc_95 : (95 : Int32) = jI 95 := by decide
theorem kc_96 : (96 : Int32) = jI 96 := by decide
theorem kc_97 : (97 : Int32) = jI 97 := by decide
theorem kc_99 : (99 : Int32) = jI 99 := by decide
theorem kc_100 : (100 : Int32) = jI 100 := by decide
theorem kc_104 : (104 : Int32) = jI 104 := by decide
theorem kc_107 : (107 : Int32) = jI 107 := by decide
theorem kc_108 : (108 : Int32) = jI 108 := by decide
theorem kc_109 : (109 : Int32) = jI 109 := by decide
theorem kc_112 : (112 : Int32) = jI 112 := by decide
theorem kc_114 : (114 : Int32) = jI 114 := by decide
theorem kc_115 : (115 : Int32) = jI 115 := by decide
theorem kc_116 : (116 : Int32) = jI 116 := by decide
theorem kc_117 : (117 : Int32) = jI 117 := by decide
theorem kc_122 : (122 : Int32) = jI 122 := by decide
theorem kc_198 : (198 : Int32) = jI 198 := by decide
theorem kc_200 : (200 : Int32) = jI 200 := by decide
theorem kc_255 : (255 : Int32) = jI 255 := by decide
theorem kc_1000 : (1000 : Int32) = jI 1000 := by decide
theorem kc_1461 : (1461 : Int32) = jI 1461 := by decide
theorem kc_9999 : (9999 : Int32) = jI 9999 := by decide
theorem kc_10000 : (10000 : Int32) = jI 10000 := by decide
theorem kc_12345 : (12345 : Int32) = jI 12345 := by decide
theorem kc_99999 : (99999 : Int32) = jI 99999 := by decide
theorem kc_16777216 : (16777216 : Int32) = jI 16777216 := by decide
theorem kc_252645135 : (252645135 : Int32) = jI 252645135 := by decide
theorem kc_858993459 : (858993459 : Int32) = jI 858993459 := by decide
theorem kc_1103515245 : (1103515245 : Int32) = jI 1103515245 := by decide
theorem kc_1431655765 : (1431655765 : Int32) = jI 1431655765 := by decide
