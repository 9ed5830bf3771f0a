section
/-! the table of all methods -/
abbrev ab_Q3 : Type := ab_M × List Nat × (ab_F → List ab_K)
def ab_P3 (G : ab_G) (xs : List Int32) (d : Nat) (cal : ab_F) (q : ab_Q3) : Prop := ab_BS G (ab_Z G xs) (d + 1) (ab_mY q.1 q.2.1) q.2.1 (q.2.2 cal) ∧ (q.2.2 cal ≠ [] → q.2.1[0]? = some 0 ∧ plainName q.1.1.cls = true)
theorem pnX8 : plainName RX8 = true := by decide +kernel
theorem pnX0 : plainName RX0 = true := by decide +kernel
theorem pnX1 : plainName RX1 = true := by decide +kernel
theorem pnX2 : plainName RX2 = true := by decide +kernel
theorem pnX3 : plainName RX3 = true := by decide +kernel
theorem pnX4 : plainName RX4 = true := by decide +kernel
theorem pnX5 : plainName RX5 = true := by decide +kernel
theorem pnX6 : plainName RX6 = true := by decide +kernel
theorem pnX7 : plainName RX7 = true := by decide +kernel
theorem pnX9 : plainName RX9 = true := by decide +kernel
theorem pnJ11 : plainName RJ11 = true := by decide +kernel
theorem pnJ6 : plainName RJ6 = true := by decide +kernel
theorem pnJ0 : plainName RJ0 = true := by decide +kernel
theorem pnJ1 : plainName RJ1 = true := by decide +kernel
theorem pnJ2 : plainName RJ2 = true := by decide +kernel
theorem pnJ7 : plainName RJ7 = true := by decide +kernel
theorem pnJ3 : plainName RJ3 = true := by decide +kernel
def ab_T3_0 : List ab_Q3 := [(mX0_isOf, pX0_isOf, bX0_isOf), (mX0_dark, pX0_dark, bX0_dark), (mX0_heavy, pX0_heavy, bX0_heavy), (mX0_worth, pX0_worth, bX0_worth), (mX1_init, pX1_init, bX1_init), (mX1_readText, pX1_readText, bX1_readText), (mX1_begin, pX1_begin, bX1_begin), (mX1_keyAtHand, pX1_keyAtHand, bX1_keyAtHand), (mX1_wordIs, pX1_wordIs, bX1_wordIs), (mX1_step, pX1_step, bX1_step), (mX1_sortAt, pX1_sortAt, bX1_sortAt), (mX1_signAtHand, pX1_signAtHand, bX1_signAtHand), (mX1_readLevel, pX1_readLevel, bX1_readLevel), (mX1_levelOf, pX1_levelOf, bX1_levelOf), (mX1_readPiece, pX1_readPiece, bX1_readPiece), (mX1_close, pX1_close, bX1_close)]
theorem ab_A3_0 {G : ab_G} {xs : List Int32} {d : Nat} {cal : ab_F} (hcs : ab_CS G (ab_Z G xs) ab_Mf cal d) : ∀ q ∈ ab_T3_0, ab_P3 G xs d cal q := List.forall_mem_cons.mpr ⟨⟨sX0_isOf hcs, fun _ => ⟨rfl, pnX0⟩⟩, List.forall_mem_cons.mpr ⟨⟨sX0_dark hcs, fun _ => ⟨rfl, pnX0⟩⟩, List.forall_mem_cons.mpr ⟨⟨sX0_heavy hcs, fun _ => ⟨rfl, pnX0⟩⟩, List.forall_mem_cons.mpr ⟨⟨sX0_worth hcs, fun _ => ⟨rfl, pnX0⟩⟩, List.forall_mem_cons.mpr ⟨⟨sX1_init hcs, fun _ => ⟨rfl, pnX1⟩⟩, List.forall_mem_cons.mpr ⟨⟨sX1_readText hcs, fun _ => ⟨rfl, pnX1⟩⟩, List.forall_mem_cons.mpr ⟨⟨sX1_begin hcs, fun _ => ⟨rfl, pnX1⟩⟩, List.forall_mem_cons.mpr ⟨⟨sX1_keyAtHand hcs, fun _ => ⟨rfl, pnX1⟩⟩, List.forall_mem_cons.mpr ⟨⟨sX1_wordIs hcs, fun _ => ⟨rfl, pnX1⟩⟩, List.forall_mem_cons.mpr ⟨⟨sX1_step hcs, fun _ => ⟨rfl, pnX1⟩⟩, List.forall_mem_cons.mpr ⟨⟨sX1_sortAt hcs, fun _ => ⟨rfl, pnX1⟩⟩, List.forall_mem_cons.mpr ⟨⟨sX1_signAtHand hcs, fun _ => ⟨rfl, pnX1⟩⟩, List.forall_mem_cons.mpr ⟨⟨sX1_readLevel hcs, fun _ => ⟨rfl, pnX1⟩⟩, List.forall_mem_cons.mpr ⟨⟨sX1_levelOf hcs, fun _ => ⟨rfl, pnX1⟩⟩, List.forall_mem_cons.mpr ⟨⟨sX1_readPiece hcs, fun _ => ⟨rfl, pnX1⟩⟩, List.forall_mem_cons.mpr ⟨⟨sX1_close hcs, fun _ => ⟨rfl, pnX1⟩⟩, fun _ h => absurd h List.not_mem_nil⟩⟩⟩⟩⟩⟩⟩⟩⟩⟩⟩⟩⟩⟩⟩⟩
def ab_T3_1 : List ab_Q3 := [(mX1_readOperand, pX1_readOperand, bX1_readOperand), (mX1_numberAtHand, pX1_numberAtHand, bX1_numberAtHand), (mX1_nameAtHand, pX1_nameAtHand, bX1_nameAtHand), (mX1_emit, pX1_emit, bX1_emit), (mX2_init, pX2_init, bX2_init), (mX2_isMissing, pX2_isMissing, bX2_isMissing), (mX2_become, pX2_become, bX2_become), (mX2_becomeLike, pX2_becomeLike, bX2_becomeLike), (mX2_write, pX2_write, bX2_write), (mX2_isNumber, pX2_isNumber, bX2_isNumber), (mX2_hasPlaces, pX2_hasPlaces, bX2_hasPlaces), (mX3_init, pX3_init, bX3_init), (mX3_takeStone, pX3_takeStone, bX3_takeStone), (mX4_init, pX4_init, bX4_init), (mX4_become, pX4_become, bX4_become), (mX4_addStone, pX4_addStone, bX4_addStone)]
theorem ab_A3_1 {G : ab_G} {xs : List Int32} {d : Nat} {cal : ab_F} (hcs : ab_CS G (ab_Z G xs) ab_Mf cal d) : ∀ q ∈ ab_T3_1, ab_P3 G xs d cal q := List.forall_mem_cons.mpr ⟨⟨sX1_readOperand hcs, fun _ => ⟨rfl, pnX1⟩⟩, List.forall_mem_cons.mpr ⟨⟨sX1_numberAtHand hcs, fun _ => ⟨rfl, pnX1⟩⟩, List.forall_mem_cons.mpr ⟨⟨sX1_nameAtHand hcs, fun _ => ⟨rfl, pnX1⟩⟩, List.forall_mem_cons.mpr ⟨⟨sX1_emit hcs, fun _ => ⟨rfl, pnX1⟩⟩, List.forall_mem_cons.mpr ⟨⟨sX2_init hcs, fun _ => ⟨rfl, pnX2⟩⟩, List.forall_mem_cons.mpr ⟨⟨sX2_isMissing hcs, fun _ => ⟨rfl, pnX2⟩⟩, List.forall_mem_cons.mpr ⟨⟨sX2_become hcs, fun _ => ⟨rfl, pnX2⟩⟩, List.forall_mem_cons.mpr ⟨⟨sX2_becomeLike hcs, fun _ => ⟨rfl, pnX2⟩⟩, List.forall_mem_cons.mpr ⟨⟨sX2_write hcs, fun _ => ⟨rfl, pnX2⟩⟩, List.forall_mem_cons.mpr ⟨⟨sX2_isNumber hcs, fun _ => ⟨rfl, pnX2⟩⟩, List.forall_mem_cons.mpr ⟨⟨sX2_hasPlaces hcs, fun _ => ⟨rfl, pnX2⟩⟩, List.forall_mem_cons.mpr ⟨⟨sX3_init hcs, fun _ => ⟨rfl, pnX3⟩⟩, List.forall_mem_cons.mpr ⟨⟨sX3_takeStone hcs, fun _ => ⟨rfl, pnX3⟩⟩, List.forall_mem_cons.mpr ⟨⟨sX4_init hcs, fun _ => ⟨rfl, pnX4⟩⟩, List.forall_mem_cons.mpr ⟨⟨sX4_become hcs, fun _ => ⟨rfl, pnX4⟩⟩, List.forall_mem_cons.mpr ⟨⟨sX4_addStone hcs, fun _ => ⟨rfl, pnX4⟩⟩, fun _ h => absurd h List.not_mem_nil⟩⟩⟩⟩⟩⟩⟩⟩⟩⟩⟩⟩⟩⟩⟩⟩
def ab_T3_2 : List ab_Q3 := [(mX4_drawStone, pX4_drawStone, bX4_drawStone), (mX4_draw, pX4_draw, bX4_draw), (mX4_textAt, pX4_textAt, bX4_textAt), (mX4_law, pX4_law, bX4_law), (mX4_addText, pX4_addText, bX4_addText), (mX4_darken, pX4_darken, bX4_darken), (mX4_darkOf, pX4_darkOf, bX4_darkOf), (mX4_darkAt, pX4_darkAt, bX4_darkAt), (mX4_heavy, pX4_heavy, bX4_heavy), (mX4_spots, pX4_spots, bX4_spots), (mX4_offAt, pX4_offAt, bX4_offAt), (mX4_leastOff, pX4_leastOff, bX4_leastOff), (mX4_isLaid, pX4_isLaid, bX4_isLaid), (mX4_moveTo, pX4_moveTo, bX4_moveTo), (mX4_picture, pX4_picture, bX4_picture), (mX4_matches, pX4_matches, bX4_matches)]
theorem ab_A3_2 {G : ab_G} {xs : List Int32} {d : Nat} {cal : ab_F} (hcs : ab_CS G (ab_Z G xs) ab_Mf cal d) : ∀ q ∈ ab_T3_2, ab_P3 G xs d cal q := List.forall_mem_cons.mpr ⟨⟨sX4_drawStone hcs, fun _ => ⟨rfl, pnX4⟩⟩, List.forall_mem_cons.mpr ⟨⟨sX4_draw hcs, fun _ => ⟨rfl, pnX4⟩⟩, List.forall_mem_cons.mpr ⟨⟨sX4_textAt hcs, fun _ => ⟨rfl, pnX4⟩⟩, List.forall_mem_cons.mpr ⟨⟨sX4_law hcs, fun _ => ⟨rfl, pnX4⟩⟩, List.forall_mem_cons.mpr ⟨⟨sX4_addText hcs, fun _ => ⟨rfl, pnX4⟩⟩, List.forall_mem_cons.mpr ⟨⟨sX4_darken hcs, fun _ => ⟨rfl, pnX4⟩⟩, List.forall_mem_cons.mpr ⟨⟨sX4_darkOf hcs, fun _ => ⟨rfl, pnX4⟩⟩, List.forall_mem_cons.mpr ⟨⟨sX4_darkAt hcs, fun _ => ⟨rfl, pnX4⟩⟩, List.forall_mem_cons.mpr ⟨⟨sX4_heavy hcs, fun _ => ⟨rfl, pnX4⟩⟩, List.forall_mem_cons.mpr ⟨⟨sX4_spots hcs, fun _ => ⟨rfl, pnX4⟩⟩, List.forall_mem_cons.mpr ⟨⟨sX4_offAt hcs, fun _ => ⟨rfl, pnX4⟩⟩, List.forall_mem_cons.mpr ⟨⟨sX4_leastOff hcs, fun _ => ⟨rfl, pnX4⟩⟩, List.forall_mem_cons.mpr ⟨⟨sX4_isLaid hcs, fun _ => ⟨rfl, pnX4⟩⟩, List.forall_mem_cons.mpr ⟨⟨sX4_moveTo hcs, fun _ => ⟨rfl, pnX4⟩⟩, List.forall_mem_cons.mpr ⟨⟨sX4_picture hcs, fun _ => ⟨rfl, pnX4⟩⟩, List.forall_mem_cons.mpr ⟨⟨sX4_matches hcs, fun _ => ⟨rfl, pnX4⟩⟩, fun _ h => absurd h List.not_mem_nil⟩⟩⟩⟩⟩⟩⟩⟩⟩⟩⟩⟩⟩⟩⟩⟩
def ab_T3_3 : List ab_Q3 := [(mX4_meet, pX4_meet, bX4_meet), (mX4_laidStones, pX4_laidStones, bX4_laidStones), (mX4_placesHeld, pX4_placesHeld, bX4_placesHeld), (mX4_passDays, pX4_passDays, bX4_passDays), (mX4_passDay, pX4_passDay, bX4_passDay), (mX4_firstEmptyIn, pX4_firstEmptyIn, bX4_firstEmptyIn), (mX4_layBestAt, pX4_layBestAt, bX4_layBestAt), (mX4_turnAt, pX4_turnAt, bX4_turnAt), (mX4_gainOfChange, pX4_gainOfChange, bX4_gainOfChange), (mX4_fallFrom, pX4_fallFrom, bX4_fallFrom), (mX4_unlike, pX4_unlike, bX4_unlike), (mX4_darkOfCell, pX4_darkOfCell, bX4_darkOfCell), (mX5_init, pX5_init, bX5_init), (mX5_add, pX5_add, bX5_add), (mX6_init, pX6_init, bX6_init), (mX6_gives, pX6_gives, bX6_gives)]
theorem ab_A3_3 {G : ab_G} {xs : List Int32} {d : Nat} {cal : ab_F} (hcs : ab_CS G (ab_Z G xs) ab_Mf cal d) : ∀ q ∈ ab_T3_3, ab_P3 G xs d cal q := List.forall_mem_cons.mpr ⟨⟨sX4_meet hcs, fun _ => ⟨rfl, pnX4⟩⟩, List.forall_mem_cons.mpr ⟨⟨sX4_laidStones hcs, fun _ => ⟨rfl, pnX4⟩⟩, List.forall_mem_cons.mpr ⟨⟨sX4_placesHeld hcs, fun _ => ⟨rfl, pnX4⟩⟩, List.forall_mem_cons.mpr ⟨⟨sX4_passDays hcs, fun _ => ⟨rfl, pnX4⟩⟩, List.forall_mem_cons.mpr ⟨⟨sX4_passDay hcs, fun _ => ⟨rfl, pnX4⟩⟩, List.forall_mem_cons.mpr ⟨⟨sX4_firstEmptyIn hcs, fun _ => ⟨rfl, pnX4⟩⟩, List.forall_mem_cons.mpr ⟨⟨sX4_layBestAt hcs, fun _ => ⟨rfl, pnX4⟩⟩, List.forall_mem_cons.mpr ⟨⟨sX4_turnAt hcs, fun _ => ⟨rfl, pnX4⟩⟩, List.forall_mem_cons.mpr ⟨⟨sX4_gainOfChange hcs, fun _ => ⟨rfl, pnX4⟩⟩, List.forall_mem_cons.mpr ⟨⟨sX4_fallFrom hcs, fun _ => ⟨rfl, pnX4⟩⟩, List.forall_mem_cons.mpr ⟨⟨sX4_unlike hcs, fun _ => ⟨rfl, pnX4⟩⟩, List.forall_mem_cons.mpr ⟨⟨sX4_darkOfCell hcs, fun _ => ⟨rfl, pnX4⟩⟩, List.forall_mem_cons.mpr ⟨⟨sX5_init hcs, fun _ => ⟨rfl, pnX5⟩⟩, List.forall_mem_cons.mpr ⟨⟨sX5_add hcs, fun _ => ⟨rfl, pnX5⟩⟩, List.forall_mem_cons.mpr ⟨⟨sX6_init hcs, fun _ => ⟨rfl, pnX6⟩⟩, List.forall_mem_cons.mpr ⟨⟨sX6_gives hcs, fun _ => ⟨rfl, pnX6⟩⟩, fun _ h => absurd h List.not_mem_nil⟩⟩⟩⟩⟩⟩⟩⟩⟩⟩⟩⟩⟩⟩⟩⟩
def ab_T3_4 : List ab_Q3 := [(mX6_named, pX6_named, bX6_named), (mX6_joined, pX6_joined, bX6_joined), (mX6_truth, pX6_truth, bX6_truth), (mX7_init, pX7_init, bX7_init), (mX7_behindDays, pX7_behindDays, bX7_behindDays), (mX7_daysTillLaid, pX7_daysTillLaid, bX7_daysTillLaid), (mX7_pictureWithout, pX7_pictureWithout, bX7_pictureWithout), (mX7_rightAhead, pX7_rightAhead, bX7_rightAhead), (mX7_bestLaying, pX7_bestLaying, bX7_bestLaying), (mX7_offerStone, pX7_offerStone, bX7_offerStone), (mX8_init, pX8_init, bX8_init), (mX8_stone, pX8_stone, bX8_stone), (mX8_told, pX8_told, bX8_told), (mX8_off, pX8_off, bX8_off), (mX8_as, pX8_as, bX8_as), (mX8_turns, pX8_turns, bX8_turns)]
theorem ab_A3_4 {G : ab_G} {xs : List Int32} {d : Nat} {cal : ab_F} (hcs : ab_CS G (ab_Z G xs) ab_Mf cal d) : ∀ q ∈ ab_T3_4, ab_P3 G xs d cal q := List.forall_mem_cons.mpr ⟨⟨sX6_named hcs, fun _ => ⟨rfl, pnX6⟩⟩, List.forall_mem_cons.mpr ⟨⟨sX6_joined hcs, fun _ => ⟨rfl, pnX6⟩⟩, List.forall_mem_cons.mpr ⟨⟨sX6_truth hcs, fun _ => ⟨rfl, pnX6⟩⟩, List.forall_mem_cons.mpr ⟨⟨sX7_init hcs, fun _ => ⟨rfl, pnX7⟩⟩, List.forall_mem_cons.mpr ⟨⟨sX7_behindDays hcs, fun _ => ⟨rfl, pnX7⟩⟩, List.forall_mem_cons.mpr ⟨⟨sX7_daysTillLaid hcs, fun _ => ⟨rfl, pnX7⟩⟩, List.forall_mem_cons.mpr ⟨⟨sX7_pictureWithout hcs, fun _ => ⟨rfl, pnX7⟩⟩, List.forall_mem_cons.mpr ⟨⟨sX7_rightAhead hcs, fun _ => ⟨rfl, pnX7⟩⟩, List.forall_mem_cons.mpr ⟨⟨sX7_bestLaying hcs, fun _ => ⟨rfl, pnX7⟩⟩, List.forall_mem_cons.mpr ⟨⟨sX7_offerStone hcs, fun _ => ⟨rfl, pnX7⟩⟩, List.forall_mem_cons.mpr ⟨⟨sX8_init hcs, fun _ => ⟨rfl, pnX8⟩⟩, List.forall_mem_cons.mpr ⟨⟨sX8_stone hcs, fun _ => ⟨rfl, pnX8⟩⟩, List.forall_mem_cons.mpr ⟨⟨sX8_told hcs, fun _ => ⟨rfl, pnX8⟩⟩, List.forall_mem_cons.mpr ⟨⟨sX8_off hcs, fun _ => ⟨rfl, pnX8⟩⟩, List.forall_mem_cons.mpr ⟨⟨sX8_as hcs, fun _ => ⟨rfl, pnX8⟩⟩, List.forall_mem_cons.mpr ⟨⟨sX8_turns hcs, fun _ => ⟨rfl, pnX8⟩⟩, fun _ h => absurd h List.not_mem_nil⟩⟩⟩⟩⟩⟩⟩⟩⟩⟩⟩⟩⟩⟩⟩⟩
def ab_T3_5 : List ab_Q3 := [(mX8_put, pX8_put, bX8_put), (mX8_box, pX8_box, bX8_box), (mX8_want, pX8_want, bX8_want), (mX8_wind, pX8_wind, bX8_wind), (mX8_deal, pX8_deal, bX8_deal), (mX8_seed, pX8_seed, bX8_seed), (mX8_days, pX8_days, bX8_days), (mX8_king, pX8_king, bX8_king), (mX8_at, pX8_at, bX8_at), (mX8_best, pX8_best, bX8_best), (mX8_bestFor, pX8_bestFor, bX8_bestFor), (mX8_swap, pX8_swap, bX8_swap), (mX8_knocked, pX8_knocked, bX8_knocked), (mX8_push, pX8_push, bX8_push), (mX8_behind, pX8_behind, bX8_behind), (mX8_laid, pX8_laid, bX8_laid)]
theorem ab_A3_5 {G : ab_G} {xs : List Int32} {d : Nat} {cal : ab_F} (hcs : ab_CS G (ab_Z G xs) ab_Mf cal d) : ∀ q ∈ ab_T3_5, ab_P3 G xs d cal q := List.forall_mem_cons.mpr ⟨⟨sX8_put hcs, fun _ => ⟨rfl, pnX8⟩⟩, List.forall_mem_cons.mpr ⟨⟨sX8_box hcs, fun _ => ⟨rfl, pnX8⟩⟩, List.forall_mem_cons.mpr ⟨⟨sX8_want hcs, fun _ => ⟨rfl, pnX8⟩⟩, List.forall_mem_cons.mpr ⟨⟨sX8_wind hcs, fun _ => ⟨rfl, pnX8⟩⟩, List.forall_mem_cons.mpr ⟨⟨sX8_deal hcs, fun _ => ⟨rfl, pnX8⟩⟩, List.forall_mem_cons.mpr ⟨⟨sX8_seed hcs, fun _ => ⟨rfl, pnX8⟩⟩, List.forall_mem_cons.mpr ⟨⟨sX8_days hcs, fun _ => ⟨rfl, pnX8⟩⟩, List.forall_mem_cons.mpr ⟨⟨sX8_king hcs, fun _ => ⟨rfl, pnX8⟩⟩, List.forall_mem_cons.mpr ⟨⟨sX8_at hcs, fun _ => ⟨rfl, pnX8⟩⟩, List.forall_mem_cons.mpr ⟨⟨sX8_best hcs, fun _ => ⟨rfl, pnX8⟩⟩, List.forall_mem_cons.mpr ⟨⟨sX8_bestFor hcs, fun _ => ⟨rfl, pnX8⟩⟩, List.forall_mem_cons.mpr ⟨⟨sX8_swap hcs, fun _ => ⟨rfl, pnX8⟩⟩, List.forall_mem_cons.mpr ⟨⟨sX8_knocked hcs, fun _ => ⟨rfl, pnX8⟩⟩, List.forall_mem_cons.mpr ⟨⟨sX8_push hcs, fun _ => ⟨rfl, pnX8⟩⟩, List.forall_mem_cons.mpr ⟨⟨sX8_behind hcs, fun _ => ⟨rfl, pnX8⟩⟩, List.forall_mem_cons.mpr ⟨⟨sX8_laid hcs, fun _ => ⟨rfl, pnX8⟩⟩, fun _ h => absurd h List.not_mem_nil⟩⟩⟩⟩⟩⟩⟩⟩⟩⟩⟩⟩⟩⟩⟩⟩
def ab_T3_6 : List ab_Q3 := [(mX8_lost, pX8_lost, bX8_lost), (mX8_seen, pX8_seen, bX8_seen), (mX8_fee, pX8_fee, bX8_fee), (mX8_fine, pX8_fine, bX8_fine), (mX8_feed, pX8_feed, bX8_feed), (mX8_trim, pX8_trim, bX8_trim), (mX8_text, pX8_text, bX8_text), (mX8_textTold, pX8_textTold, bX8_textTold), (mX8_why, pX8_why, bX8_why), (mX8_sheet, pX8_sheet, bX8_sheet), (mX8_mark, pX8_mark, bX8_mark), (mX8_pour, pX8_pour, bX8_pour), (mX8_reads, pX8_reads, bX8_reads), (mX8_copy, pX8_copy, bX8_copy), (mX8_lay, pX8_lay, bX8_lay), (mX8_ask, pX8_ask, bX8_ask)]
theorem ab_A3_6 {G : ab_G} {xs : List Int32} {d : Nat} {cal : ab_F} (hcs : ab_CS G (ab_Z G xs) ab_Mf cal d) : ∀ q ∈ ab_T3_6, ab_P3 G xs d cal q := List.forall_mem_cons.mpr ⟨⟨sX8_lost hcs, fun _ => ⟨rfl, pnX8⟩⟩, List.forall_mem_cons.mpr ⟨⟨sX8_seen hcs, fun _ => ⟨rfl, pnX8⟩⟩, List.forall_mem_cons.mpr ⟨⟨sX8_fee hcs, fun _ => ⟨rfl, pnX8⟩⟩, List.forall_mem_cons.mpr ⟨⟨sX8_fine hcs, fun _ => ⟨rfl, pnX8⟩⟩, List.forall_mem_cons.mpr ⟨⟨sX8_feed hcs, fun _ => ⟨rfl, pnX8⟩⟩, List.forall_mem_cons.mpr ⟨⟨sX8_trim hcs, fun _ => ⟨rfl, pnX8⟩⟩, List.forall_mem_cons.mpr ⟨⟨sX8_text hcs, fun _ => ⟨rfl, pnX8⟩⟩, List.forall_mem_cons.mpr ⟨⟨sX8_textTold hcs, fun _ => ⟨rfl, pnX8⟩⟩, List.forall_mem_cons.mpr ⟨⟨sX8_why hcs, fun _ => ⟨rfl, pnX8⟩⟩, List.forall_mem_cons.mpr ⟨⟨sX8_sheet hcs, fun _ => ⟨rfl, pnX8⟩⟩, List.forall_mem_cons.mpr ⟨⟨sX8_mark hcs, fun _ => ⟨rfl, pnX8⟩⟩, List.forall_mem_cons.mpr ⟨⟨sX8_pour hcs, fun _ => ⟨rfl, pnX8⟩⟩, List.forall_mem_cons.mpr ⟨⟨sX8_reads hcs, fun _ => ⟨rfl, pnX8⟩⟩, List.forall_mem_cons.mpr ⟨⟨sX8_copy hcs, fun _ => ⟨rfl, pnX8⟩⟩, List.forall_mem_cons.mpr ⟨⟨sX8_lay hcs, fun _ => ⟨rfl, pnX8⟩⟩, List.forall_mem_cons.mpr ⟨⟨sX8_ask hcs, fun _ => ⟨rfl, pnX8⟩⟩, fun _ h => absurd h List.not_mem_nil⟩⟩⟩⟩⟩⟩⟩⟩⟩⟩⟩⟩⟩⟩⟩⟩
def ab_T3_7 : List ab_Q3 := [(mX8_item, pX8_item, bX8_item), (mX8_rest, pX8_rest, bX8_rest), (mX8_tell, pX8_tell, bX8_tell), (mX8_check, pX8_check, bX8_check), (mX8_keep, pX8_keep, bX8_keep), (mX8_back, pX8_back, bX8_back), (mX8_count, pX8_count, bX8_count), (mX8_isStone, pX8_isStone, bX8_isStone), (mX8_isPlace, pX8_isPlace, bX8_isPlace), (mX8_isSheet, pX8_isSheet, bX8_isSheet), (mX8_isSlot, pX8_isSlot, bX8_isSlot), (mX8_within, pX8_within, bX8_within), (mX8_clamp, pX8_clamp, bX8_clamp), (mX8_stoneOrNone, pX8_stoneOrNone, bX8_stoneOrNone), (mX8_lookFor, pX8_lookFor, bX8_lookFor), (mX9_init, pX9_init, bX9_init)]
theorem ab_A3_7 {G : ab_G} {xs : List Int32} {d : Nat} {cal : ab_F} (hcs : ab_CS G (ab_Z G xs) ab_Mf cal d) : ∀ q ∈ ab_T3_7, ab_P3 G xs d cal q := List.forall_mem_cons.mpr ⟨⟨sX8_item hcs, fun _ => ⟨rfl, pnX8⟩⟩, List.forall_mem_cons.mpr ⟨⟨sX8_rest hcs, fun _ => ⟨rfl, pnX8⟩⟩, List.forall_mem_cons.mpr ⟨⟨sX8_tell hcs, fun _ => ⟨rfl, pnX8⟩⟩, List.forall_mem_cons.mpr ⟨⟨sX8_check hcs, fun _ => ⟨rfl, pnX8⟩⟩, List.forall_mem_cons.mpr ⟨⟨sX8_keep hcs, fun _ => ⟨rfl, pnX8⟩⟩, List.forall_mem_cons.mpr ⟨⟨sX8_back hcs, fun _ => ⟨rfl, pnX8⟩⟩, List.forall_mem_cons.mpr ⟨⟨sX8_count hcs, fun _ => ⟨rfl, pnX8⟩⟩, List.forall_mem_cons.mpr ⟨⟨sX8_isStone hcs, fun _ => ⟨rfl, pnX8⟩⟩, List.forall_mem_cons.mpr ⟨⟨sX8_isPlace hcs, fun _ => ⟨rfl, pnX8⟩⟩, List.forall_mem_cons.mpr ⟨⟨sX8_isSheet hcs, fun _ => ⟨rfl, pnX8⟩⟩, List.forall_mem_cons.mpr ⟨⟨sX8_isSlot hcs, fun _ => ⟨rfl, pnX8⟩⟩, List.forall_mem_cons.mpr ⟨⟨sX8_within hcs, fun _ => ⟨rfl, pnX8⟩⟩, List.forall_mem_cons.mpr ⟨⟨sX8_clamp hcs, fun _ => ⟨rfl, pnX8⟩⟩, List.forall_mem_cons.mpr ⟨⟨sX8_stoneOrNone hcs, fun _ => ⟨rfl, pnX8⟩⟩, List.forall_mem_cons.mpr ⟨⟨sX8_lookFor hcs, fun _ => ⟨rfl, pnX8⟩⟩, List.forall_mem_cons.mpr ⟨⟨sX9_init hcs, fun _ => ⟨rfl, pnX9⟩⟩, fun _ h => absurd h List.not_mem_nil⟩⟩⟩⟩⟩⟩⟩⟩⟩⟩⟩⟩⟩⟩⟩⟩
def ab_T3_8 : List ab_Q3 := [(mX9_in, pX9_in, bX9_in), (mX9_within, pX9_within, bX9_within), (mX9_apart, pX9_apart, bX9_apart), (mX9_copyAll, pX9_copyAll, bX9_copyAll), (mX9_told0, pX9_told0, bX9_told0), (mX9_isStone, pX9_isStone, bX9_isStone), (mX9_isPlace, pX9_isPlace, bX9_isPlace), (mX9_of, pX9_of, bX9_of), (mX9_becomes, pX9_becomes, bX9_becomes), (mX9_comes, pX9_comes, bX9_comes), (mX9_stone, pX9_stone, bX9_stone), (mX9_heavyOf, pX9_heavyOf, bX9_heavyOf), (mX9_worthOf, pX9_worthOf, bX9_worthOf), (mX9_told, pX9_told, bX9_told), (mX9_spotsOf, pX9_spotsOf, bX9_spotsOf), (mX9_darkOf, pX9_darkOf, bX9_darkOf)]
theorem ab_A3_8 {G : ab_G} {xs : List Int32} {d : Nat} {cal : ab_F} (hcs : ab_CS G (ab_Z G xs) ab_Mf cal d) : ∀ q ∈ ab_T3_8, ab_P3 G xs d cal q := List.forall_mem_cons.mpr ⟨⟨sX9_in hcs, fun _ => ⟨rfl, pnX9⟩⟩, List.forall_mem_cons.mpr ⟨⟨sX9_within hcs, fun _ => ⟨rfl, pnX9⟩⟩, List.forall_mem_cons.mpr ⟨⟨sX9_apart hcs, fun _ => ⟨rfl, pnX9⟩⟩, List.forall_mem_cons.mpr ⟨⟨sX9_copyAll hcs, fun _ => ⟨rfl, pnX9⟩⟩, List.forall_mem_cons.mpr ⟨⟨sX9_told0 hcs, fun _ => ⟨rfl, pnX9⟩⟩, List.forall_mem_cons.mpr ⟨⟨sX9_isStone hcs, fun _ => ⟨rfl, pnX9⟩⟩, List.forall_mem_cons.mpr ⟨⟨sX9_isPlace hcs, fun _ => ⟨rfl, pnX9⟩⟩, List.forall_mem_cons.mpr ⟨⟨sX9_of hcs, fun _ => ⟨rfl, pnX9⟩⟩, List.forall_mem_cons.mpr ⟨⟨sX9_becomes hcs, fun _ => ⟨rfl, pnX9⟩⟩, List.forall_mem_cons.mpr ⟨⟨sX9_comes hcs, fun _ => ⟨rfl, pnX9⟩⟩, List.forall_mem_cons.mpr ⟨⟨sX9_stone hcs, fun _ => ⟨rfl, pnX9⟩⟩, List.forall_mem_cons.mpr ⟨⟨sX9_heavyOf hcs, fun _ => ⟨rfl, pnX9⟩⟩, List.forall_mem_cons.mpr ⟨⟨sX9_worthOf hcs, fun _ => ⟨rfl, pnX9⟩⟩, List.forall_mem_cons.mpr ⟨⟨sX9_told hcs, fun _ => ⟨rfl, pnX9⟩⟩, List.forall_mem_cons.mpr ⟨⟨sX9_spotsOf hcs, fun _ => ⟨rfl, pnX9⟩⟩, List.forall_mem_cons.mpr ⟨⟨sX9_darkOf hcs, fun _ => ⟨rfl, pnX9⟩⟩, fun _ h => absurd h List.not_mem_nil⟩⟩⟩⟩⟩⟩⟩⟩⟩⟩⟩⟩⟩⟩⟩⟩
def ab_T3_9 : List ab_Q3 := [(mX9_offOf, pX9_offOf, bX9_offOf), (mX9_off, pX9_off, bX9_off), (mX9_isUnder, pX9_isUnder, bX9_isUnder), (mX9_as, pX9_as, bX9_as), (mX9_turns, pX9_turns, bX9_turns), (mX9_holder, pX9_holder, bX9_holder), (mX9_put, pX9_put, bX9_put), (mX9_box, pX9_box, bX9_box), (mX9_want, pX9_want, bX9_want), (mX9_wind, pX9_wind, bX9_wind), (mX9_draw, pX9_draw, bX9_draw), (mX9_deal, pX9_deal, bX9_deal), (mX9_seed, pX9_seed, bX9_seed), (mX9_manyLaid, pX9_manyLaid, bX9_manyLaid), (mX9_laysIn, pX9_laysIn, bX9_laysIn), (mX9_day, pX9_day, bX9_day)]
theorem ab_A3_9 {G : ab_G} {xs : List Int32} {d : Nat} {cal : ab_F} (hcs : ab_CS G (ab_Z G xs) ab_Mf cal d) : ∀ q ∈ ab_T3_9, ab_P3 G xs d cal q := List.forall_mem_cons.mpr ⟨⟨sX9_offOf hcs, fun _ => ⟨rfl, pnX9⟩⟩, List.forall_mem_cons.mpr ⟨⟨sX9_off hcs, fun _ => ⟨rfl, pnX9⟩⟩, List.forall_mem_cons.mpr ⟨⟨sX9_isUnder hcs, fun _ => ⟨rfl, pnX9⟩⟩, List.forall_mem_cons.mpr ⟨⟨sX9_as hcs, fun _ => ⟨rfl, pnX9⟩⟩, List.forall_mem_cons.mpr ⟨⟨sX9_turns hcs, fun _ => ⟨rfl, pnX9⟩⟩, List.forall_mem_cons.mpr ⟨⟨sX9_holder hcs, fun _ => ⟨rfl, pnX9⟩⟩, List.forall_mem_cons.mpr ⟨⟨sX9_put hcs, fun _ => ⟨rfl, pnX9⟩⟩, List.forall_mem_cons.mpr ⟨⟨sX9_box hcs, fun _ => ⟨rfl, pnX9⟩⟩, List.forall_mem_cons.mpr ⟨⟨sX9_want hcs, fun _ => ⟨rfl, pnX9⟩⟩, List.forall_mem_cons.mpr ⟨⟨sX9_wind hcs, fun _ => ⟨rfl, pnX9⟩⟩, List.forall_mem_cons.mpr ⟨⟨sX9_draw hcs, fun _ => ⟨rfl, pnX9⟩⟩, List.forall_mem_cons.mpr ⟨⟨sX9_deal hcs, fun _ => ⟨rfl, pnX9⟩⟩, List.forall_mem_cons.mpr ⟨⟨sX9_seed hcs, fun _ => ⟨rfl, pnX9⟩⟩, List.forall_mem_cons.mpr ⟨⟨sX9_manyLaid hcs, fun _ => ⟨rfl, pnX9⟩⟩, List.forall_mem_cons.mpr ⟨⟨sX9_laysIn hcs, fun _ => ⟨rfl, pnX9⟩⟩, List.forall_mem_cons.mpr ⟨⟨sX9_day hcs, fun _ => ⟨rfl, pnX9⟩⟩, fun _ h => absurd h List.not_mem_nil⟩⟩⟩⟩⟩⟩⟩⟩⟩⟩⟩⟩⟩⟩⟩⟩
def ab_T3_10 : List ab_Q3 := [(mX9_goesOn, pX9_goesOn, bX9_goesOn), (mX9_days, pX9_days, bX9_days), (mX9_picture, pX9_picture, bX9_picture), (mX9_matches, pX9_matches, bX9_matches), (mX9_king, pX9_king, bX9_king), (mX9_at, pX9_at, bX9_at), (mX9_leastAt, pX9_leastAt, bX9_leastAt), (mX9_bits, pX9_bits, bX9_bits), (mX9_layable, pX9_layable, bX9_layable), (mX9_best, pX9_best, bX9_best), (mX9_bestFor, pX9_bestFor, bX9_bestFor), (mX9_change, pX9_change, bX9_change), (mX9_swap, pX9_swap, bX9_swap), (mX9_falls, pX9_falls, bX9_falls), (mX9_knocked, pX9_knocked, bX9_knocked), (mX9_push, pX9_push, bX9_push)]
theorem ab_A3_10 {G : ab_G} {xs : List Int32} {d : Nat} {cal : ab_F} (hcs : ab_CS G (ab_Z G xs) ab_Mf cal d) : ∀ q ∈ ab_T3_10, ab_P3 G xs d cal q := List.forall_mem_cons.mpr ⟨⟨sX9_goesOn hcs, fun _ => ⟨rfl, pnX9⟩⟩, List.forall_mem_cons.mpr ⟨⟨sX9_days hcs, fun _ => ⟨rfl, pnX9⟩⟩, List.forall_mem_cons.mpr ⟨⟨sX9_picture hcs, fun _ => ⟨rfl, pnX9⟩⟩, List.forall_mem_cons.mpr ⟨⟨sX9_matches hcs, fun _ => ⟨rfl, pnX9⟩⟩, List.forall_mem_cons.mpr ⟨⟨sX9_king hcs, fun _ => ⟨rfl, pnX9⟩⟩, List.forall_mem_cons.mpr ⟨⟨sX9_at hcs, fun _ => ⟨rfl, pnX9⟩⟩, List.forall_mem_cons.mpr ⟨⟨sX9_leastAt hcs, fun _ => ⟨rfl, pnX9⟩⟩, List.forall_mem_cons.mpr ⟨⟨sX9_bits hcs, fun _ => ⟨rfl, pnX9⟩⟩, List.forall_mem_cons.mpr ⟨⟨sX9_layable hcs, fun _ => ⟨rfl, pnX9⟩⟩, List.forall_mem_cons.mpr ⟨⟨sX9_best hcs, fun _ => ⟨rfl, pnX9⟩⟩, List.forall_mem_cons.mpr ⟨⟨sX9_bestFor hcs, fun _ => ⟨rfl, pnX9⟩⟩, List.forall_mem_cons.mpr ⟨⟨sX9_change hcs, fun _ => ⟨rfl, pnX9⟩⟩, List.forall_mem_cons.mpr ⟨⟨sX9_swap hcs, fun _ => ⟨rfl, pnX9⟩⟩, List.forall_mem_cons.mpr ⟨⟨sX9_falls hcs, fun _ => ⟨rfl, pnX9⟩⟩, List.forall_mem_cons.mpr ⟨⟨sX9_knocked hcs, fun _ => ⟨rfl, pnX9⟩⟩, List.forall_mem_cons.mpr ⟨⟨sX9_push hcs, fun _ => ⟨rfl, pnX9⟩⟩, fun _ h => absurd h List.not_mem_nil⟩⟩⟩⟩⟩⟩⟩⟩⟩⟩⟩⟩⟩⟩⟩⟩
def ab_T3_11 : List ab_Q3 := [(mX9_thinks, pX9_thinks, bX9_thinks), (mX9_putsBack, pX9_putsBack, bX9_putsBack), (mX9_behind, pX9_behind, bX9_behind), (mX9_isLaid, pX9_isLaid, bX9_isLaid), (mX9_laid, pX9_laid, bX9_laid), (mX9_lost, pX9_lost, bX9_lost), (mX9_darkAt, pX9_darkAt, bX9_darkAt), (mX9_offBy, pX9_offBy, bX9_offBy), (mX9_seen, pX9_seen, bX9_seen), (mX9_fee, pX9_fee, bX9_fee), (mX9_fine, pX9_fine, bX9_fine), (mX9_feed, pX9_feed, bX9_feed), (mX9_trim, pX9_trim, bX9_trim), (mX9_isLetter, pX9_isLetter, bX9_isLetter), (mX9_isFigure, pX9_isFigure, bX9_isFigure), (mX9_go, pX9_go, bX9_go)]
theorem ab_A3_11 {G : ab_G} {xs : List Int32} {d : Nat} {cal : ab_F} (hcs : ab_CS G (ab_Z G xs) ab_Mf cal d) : ∀ q ∈ ab_T3_11, ab_P3 G xs d cal q := List.forall_mem_cons.mpr ⟨⟨sX9_thinks hcs, fun _ => ⟨rfl, pnX9⟩⟩, List.forall_mem_cons.mpr ⟨⟨sX9_putsBack hcs, fun _ => ⟨rfl, pnX9⟩⟩, List.forall_mem_cons.mpr ⟨⟨sX9_behind hcs, fun _ => ⟨rfl, pnX9⟩⟩, List.forall_mem_cons.mpr ⟨⟨sX9_isLaid hcs, fun _ => ⟨rfl, pnX9⟩⟩, List.forall_mem_cons.mpr ⟨⟨sX9_laid hcs, fun _ => ⟨rfl, pnX9⟩⟩, List.forall_mem_cons.mpr ⟨⟨sX9_lost hcs, fun _ => ⟨rfl, pnX9⟩⟩, List.forall_mem_cons.mpr ⟨⟨sX9_darkAt hcs, fun _ => ⟨rfl, pnX9⟩⟩, List.forall_mem_cons.mpr ⟨⟨sX9_offBy hcs, fun _ => ⟨rfl, pnX9⟩⟩, List.forall_mem_cons.mpr ⟨⟨sX9_seen hcs, fun _ => ⟨rfl, pnX9⟩⟩, List.forall_mem_cons.mpr ⟨⟨sX9_fee hcs, fun _ => ⟨rfl, pnX9⟩⟩, List.forall_mem_cons.mpr ⟨⟨sX9_fine hcs, fun _ => ⟨rfl, pnX9⟩⟩, List.forall_mem_cons.mpr ⟨⟨sX9_feed hcs, fun _ => ⟨rfl, pnX9⟩⟩, List.forall_mem_cons.mpr ⟨⟨sX9_trim hcs, fun _ => ⟨rfl, pnX9⟩⟩, List.forall_mem_cons.mpr ⟨⟨sX9_isLetter hcs, fun _ => ⟨rfl, pnX9⟩⟩, List.forall_mem_cons.mpr ⟨⟨sX9_isFigure hcs, fun _ => ⟨rfl, pnX9⟩⟩, List.forall_mem_cons.mpr ⟨⟨sX9_go hcs, fun _ => ⟨rfl, pnX9⟩⟩, fun _ h => absurd h List.not_mem_nil⟩⟩⟩⟩⟩⟩⟩⟩⟩⟩⟩⟩⟩⟩⟩⟩
def ab_T3_12 : List ab_Q3 := [(mX9_takesKey, pX9_takesKey, bX9_takesKey), (mX9_nameOf, pX9_nameOf, bX9_nameOf), (mX9_rank, pX9_rank, bX9_rank), (mX9_settle, pX9_settle, bX9_settle), (mX9_signHere, pX9_signHere, bX9_signHere), (mX9_takesPart, pX9_takesPart, bX9_takesPart), (mX9_takesE, pX9_takesE, bX9_takesE), (mX9_notsOpen, pX9_notsOpen, bX9_notsOpen), (mX9_text, pX9_text, bX9_text), (mX9_textTold, pX9_textTold, bX9_textTold), (mX9_counts, pX9_counts, bX9_counts), (mX9_why, pX9_why, bX9_why), (mX9_two, pX9_two, bX9_two), (mX9_worksOut, pX9_worksOut, bX9_worksOut), (mX9_isSheet, pX9_isSheet, bX9_isSheet), (mX9_isSlot, pX9_isSlot, bX9_isSlot)]
theorem ab_A3_12 {G : ab_G} {xs : List Int32} {d : Nat} {cal : ab_F} (hcs : ab_CS G (ab_Z G xs) ab_Mf cal d) : ∀ q ∈ ab_T3_12, ab_P3 G xs d cal q := List.forall_mem_cons.mpr ⟨⟨sX9_takesKey hcs, fun _ => ⟨rfl, pnX9⟩⟩, List.forall_mem_cons.mpr ⟨⟨sX9_nameOf hcs, fun _ => ⟨rfl, pnX9⟩⟩, List.forall_mem_cons.mpr ⟨⟨sX9_rank hcs, fun _ => ⟨rfl, pnX9⟩⟩, List.forall_mem_cons.mpr ⟨⟨sX9_settle hcs, fun _ => ⟨rfl, pnX9⟩⟩, List.forall_mem_cons.mpr ⟨⟨sX9_signHere hcs, fun _ => ⟨rfl, pnX9⟩⟩, List.forall_mem_cons.mpr ⟨⟨sX9_takesPart hcs, fun _ => ⟨rfl, pnX9⟩⟩, List.forall_mem_cons.mpr ⟨⟨sX9_takesE hcs, fun _ => ⟨rfl, pnX9⟩⟩, List.forall_mem_cons.mpr ⟨⟨sX9_notsOpen hcs, fun _ => ⟨rfl, pnX9⟩⟩, List.forall_mem_cons.mpr ⟨⟨sX9_text hcs, fun _ => ⟨rfl, pnX9⟩⟩, List.forall_mem_cons.mpr ⟨⟨sX9_textTold hcs, fun _ => ⟨rfl, pnX9⟩⟩, List.forall_mem_cons.mpr ⟨⟨sX9_counts hcs, fun _ => ⟨rfl, pnX9⟩⟩, List.forall_mem_cons.mpr ⟨⟨sX9_why hcs, fun _ => ⟨rfl, pnX9⟩⟩, List.forall_mem_cons.mpr ⟨⟨sX9_two hcs, fun _ => ⟨rfl, pnX9⟩⟩, List.forall_mem_cons.mpr ⟨⟨sX9_worksOut hcs, fun _ => ⟨rfl, pnX9⟩⟩, List.forall_mem_cons.mpr ⟨⟨sX9_isSheet hcs, fun _ => ⟨rfl, pnX9⟩⟩, List.forall_mem_cons.mpr ⟨⟨sX9_isSlot hcs, fun _ => ⟨rfl, pnX9⟩⟩, fun _ h => absurd h List.not_mem_nil⟩⟩⟩⟩⟩⟩⟩⟩⟩⟩⟩⟩⟩⟩⟩⟩
def ab_T3_13 : List ab_Q3 := [(mX9_sheet, pX9_sheet, bX9_sheet), (mX9_mark, pX9_mark, bX9_mark), (mX9_pour, pX9_pour, bX9_pour), (mX9_reads, pX9_reads, bX9_reads), (mX9_copy, pX9_copy, bX9_copy), (mX9_lay, pX9_lay, bX9_lay), (mX9_ask, pX9_ask, bX9_ask), (mX9_item, pX9_item, bX9_item), (mX9_rest, pX9_rest, bX9_rest), (mX9_tell, pX9_tell, bX9_tell), (mX9_check, pX9_check, bX9_check), (mX9_keep, pX9_keep, bX9_keep), (mX9_back, pX9_back, bX9_back), (mX9_count, pX9_count, bX9_count), (mJ11_isValidCodePoint_9a6ad, pJ11_isValidCodePoint_9a6ad, bJ11_isValidCodePoint_9a6ad), (mJ11_highSurrogate_5068e, pJ11_highSurrogate_5068e, bJ11_highSurrogate_5068e)]
theorem ab_A3_13 {G : ab_G} {xs : List Int32} {d : Nat} {cal : ab_F} (hcs : ab_CS G (ab_Z G xs) ab_Mf cal d) : ∀ q ∈ ab_T3_13, ab_P3 G xs d cal q := List.forall_mem_cons.mpr ⟨⟨sX9_sheet hcs, fun _ => ⟨rfl, pnX9⟩⟩, List.forall_mem_cons.mpr ⟨⟨sX9_mark hcs, fun _ => ⟨rfl, pnX9⟩⟩, List.forall_mem_cons.mpr ⟨⟨sX9_pour hcs, fun _ => ⟨rfl, pnX9⟩⟩, List.forall_mem_cons.mpr ⟨⟨sX9_reads hcs, fun _ => ⟨rfl, pnX9⟩⟩, List.forall_mem_cons.mpr ⟨⟨sX9_copy hcs, fun _ => ⟨rfl, pnX9⟩⟩, List.forall_mem_cons.mpr ⟨⟨sX9_lay hcs, fun _ => ⟨rfl, pnX9⟩⟩, List.forall_mem_cons.mpr ⟨⟨sX9_ask hcs, fun _ => ⟨rfl, pnX9⟩⟩, List.forall_mem_cons.mpr ⟨⟨sX9_item hcs, fun _ => ⟨rfl, pnX9⟩⟩, List.forall_mem_cons.mpr ⟨⟨sX9_rest hcs, fun _ => ⟨rfl, pnX9⟩⟩, List.forall_mem_cons.mpr ⟨⟨sX9_tell hcs, fun _ => ⟨rfl, pnX9⟩⟩, List.forall_mem_cons.mpr ⟨⟨sX9_check hcs, fun _ => ⟨rfl, pnX9⟩⟩, List.forall_mem_cons.mpr ⟨⟨sX9_keep hcs, fun _ => ⟨rfl, pnX9⟩⟩, List.forall_mem_cons.mpr ⟨⟨sX9_back hcs, fun _ => ⟨rfl, pnX9⟩⟩, List.forall_mem_cons.mpr ⟨⟨sX9_count hcs, fun _ => ⟨rfl, pnX9⟩⟩, List.forall_mem_cons.mpr ⟨⟨sJ11_isValidCodePoint_9a6ad hcs, fun _ => ⟨rfl, pnJ11⟩⟩, List.forall_mem_cons.mpr ⟨⟨sJ11_highSurrogate_5068e hcs, fun _ => ⟨rfl, pnJ11⟩⟩, fun _ h => absurd h List.not_mem_nil⟩⟩⟩⟩⟩⟩⟩⟩⟩⟩⟩⟩⟩⟩⟩⟩
def ab_T3_14 : List ab_Q3 := [(mJ11_lowSurrogate_5068e, pJ11_lowSurrogate_5068e, bJ11_lowSurrogate_5068e), (mJ6_bitCount_0f7a4, pJ6_bitCount_0f7a4, bJ6_bitCount_0f7a4), (mJ9_abs_0f7a4, [], fun _ => []), (mJ9_max_7cf53, [], fun _ => []), (mJ9_min_7cf53, [], fun _ => []), (mJ0_length_8abf5, pJ0_length_8abf5, bJ0_length_8abf5), (mJ0_charAt_5068e, pJ0_charAt_5068e, bJ0_charAt_5068e), (mJ0_indexOf_0f7a4, pJ0_indexOf_0f7a4, bJ0_indexOf_0f7a4), (mJ0_indexOf_7cf53, pJ0_indexOf_7cf53, bJ0_indexOf_7cf53), (mJ0_coder_7d493, pJ0_coder_7d493, bJ0_coder_7d493), (mJ0_isLatin1_aae02, pJ0_isLatin1_aae02, bJ0_isLatin1_aae02), (mJ0_checkIndex_df160, pJ0_checkIndex_df160, bJ0_checkIndex_df160), (mJ0_checkBoundsBeginEnd_23922, pJ0_checkBoundsBeginEnd_23922, bJ0_checkBoundsBeginEnd_23922), (mJ1_charAt_3b067, pJ1_charAt_3b067, bJ1_charAt_3b067), (mJ1_canEncode_9a6ad, pJ1_canEncode_9a6ad, bJ1_canEncode_9a6ad), (mJ1_indexOf_4cfef, pJ1_indexOf_4cfef, bJ1_indexOf_4cfef)]
theorem ab_A3_14 {G : ab_G} {xs : List Int32} {d : Nat} {cal : ab_F} (hcs : ab_CS G (ab_Z G xs) ab_Mf cal d) : ∀ q ∈ ab_T3_14, ab_P3 G xs d cal q := List.forall_mem_cons.mpr ⟨⟨sJ11_lowSurrogate_5068e hcs, fun _ => ⟨rfl, pnJ11⟩⟩, List.forall_mem_cons.mpr ⟨⟨sJ6_bitCount_0f7a4 hcs, fun _ => ⟨rfl, pnJ6⟩⟩, List.forall_mem_cons.mpr ⟨⟨trivial, fun h => absurd rfl h⟩, List.forall_mem_cons.mpr ⟨⟨trivial, fun h => absurd rfl h⟩, List.forall_mem_cons.mpr ⟨⟨trivial, fun h => absurd rfl h⟩, List.forall_mem_cons.mpr ⟨⟨sJ0_length_8abf5 hcs, fun _ => ⟨rfl, pnJ0⟩⟩, List.forall_mem_cons.mpr ⟨⟨sJ0_charAt_5068e hcs, fun _ => ⟨rfl, pnJ0⟩⟩, List.forall_mem_cons.mpr ⟨⟨sJ0_indexOf_0f7a4 hcs, fun _ => ⟨rfl, pnJ0⟩⟩, List.forall_mem_cons.mpr ⟨⟨sJ0_indexOf_7cf53 hcs, fun _ => ⟨rfl, pnJ0⟩⟩, List.forall_mem_cons.mpr ⟨⟨sJ0_coder_7d493 hcs, fun _ => ⟨rfl, pnJ0⟩⟩, List.forall_mem_cons.mpr ⟨⟨sJ0_isLatin1_aae02 hcs, fun _ => ⟨rfl, pnJ0⟩⟩, List.forall_mem_cons.mpr ⟨⟨sJ0_checkIndex_df160 hcs, fun _ => ⟨rfl, pnJ0⟩⟩, List.forall_mem_cons.mpr ⟨⟨sJ0_checkBoundsBeginEnd_23922 hcs, fun _ => ⟨rfl, pnJ0⟩⟩, List.forall_mem_cons.mpr ⟨⟨sJ1_charAt_3b067 hcs, fun _ => ⟨rfl, pnJ1⟩⟩, List.forall_mem_cons.mpr ⟨⟨sJ1_canEncode_9a6ad hcs, fun _ => ⟨rfl, pnJ1⟩⟩, List.forall_mem_cons.mpr ⟨⟨sJ1_indexOf_4cfef hcs, fun _ => ⟨rfl, pnJ1⟩⟩, fun _ h => absurd h List.not_mem_nil⟩⟩⟩⟩⟩⟩⟩⟩⟩⟩⟩⟩⟩⟩⟩⟩
def ab_T3_15 : List ab_Q3 := [(mJ1_indexOfChar_4cfef, pJ1_indexOfChar_4cfef, bJ1_indexOfChar_4cfef), (mJ2_getChar_3b067, pJ2_getChar_3b067, bJ2_getChar_3b067), (mJ2_length_9d52b, pJ2_length_9d52b, bJ2_length_9d52b), (mJ2_indexOf_4cfef, pJ2_indexOf_4cfef, bJ2_indexOf_4cfef), (mJ2_indexOfChar_4cfef, pJ2_indexOfChar_4cfef, bJ2_indexOfChar_4cfef), (mJ2_indexOfCharUnsafe_4cfef, pJ2_indexOfCharUnsafe_4cfef, bJ2_indexOfCharUnsafe_4cfef), (mJ2_indexOfSupplementary_4cfef, pJ2_indexOfSupplementary_4cfef, bJ2_indexOfSupplementary_4cfef), (mJ2_charAt_3b067, pJ2_charAt_3b067, bJ2_charAt_3b067), (mJ2_checkIndex_2214a, pJ2_checkIndex_2214a, bJ2_checkIndex_2214a), (mJ2_checkBoundsBeginEnd_d044e, pJ2_checkBoundsBeginEnd_d044e, bJ2_checkBoundsBeginEnd_d044e), (mJ7_fill_53178, pJ7_fill_53178, bJ7_fill_53178), (mJ7_copyOf_59c91, pJ7_copyOf_59c91, bJ7_copyOf_59c91), (mJ3_checkIndex_8e157, pJ3_checkIndex_8e157, bJ3_checkIndex_8e157), (mJ3_checkFromToIndex_8c36e, pJ3_checkFromToIndex_8c36e, bJ3_checkFromToIndex_8c36e)]
theorem ab_A3_15 {G : ab_G} {xs : List Int32} {d : Nat} {cal : ab_F} (hcs : ab_CS G (ab_Z G xs) ab_Mf cal d) : ∀ q ∈ ab_T3_15, ab_P3 G xs d cal q := List.forall_mem_cons.mpr ⟨⟨sJ1_indexOfChar_4cfef hcs, fun _ => ⟨rfl, pnJ1⟩⟩, List.forall_mem_cons.mpr ⟨⟨sJ2_getChar_3b067 hcs, fun _ => ⟨rfl, pnJ2⟩⟩, List.forall_mem_cons.mpr ⟨⟨sJ2_length_9d52b hcs, fun _ => ⟨rfl, pnJ2⟩⟩, List.forall_mem_cons.mpr ⟨⟨sJ2_indexOf_4cfef hcs, fun _ => ⟨rfl, pnJ2⟩⟩, List.forall_mem_cons.mpr ⟨⟨sJ2_indexOfChar_4cfef hcs, fun _ => ⟨rfl, pnJ2⟩⟩, List.forall_mem_cons.mpr ⟨⟨sJ2_indexOfCharUnsafe_4cfef hcs, fun _ => ⟨rfl, pnJ2⟩⟩, List.forall_mem_cons.mpr ⟨⟨sJ2_indexOfSupplementary_4cfef hcs, fun _ => ⟨rfl, pnJ2⟩⟩, List.forall_mem_cons.mpr ⟨⟨sJ2_charAt_3b067 hcs, fun _ => ⟨rfl, pnJ2⟩⟩, List.forall_mem_cons.mpr ⟨⟨sJ2_checkIndex_2214a hcs, fun _ => ⟨rfl, pnJ2⟩⟩, List.forall_mem_cons.mpr ⟨⟨sJ2_checkBoundsBeginEnd_d044e hcs, fun _ => ⟨rfl, pnJ2⟩⟩, List.forall_mem_cons.mpr ⟨⟨sJ7_fill_53178 hcs, fun _ => ⟨rfl, pnJ7⟩⟩, List.forall_mem_cons.mpr ⟨⟨sJ7_copyOf_59c91 hcs, fun _ => ⟨rfl, pnJ7⟩⟩, List.forall_mem_cons.mpr ⟨⟨sJ3_checkIndex_8e157 hcs, fun _ => ⟨rfl, pnJ3⟩⟩, List.forall_mem_cons.mpr ⟨⟨sJ3_checkFromToIndex_8c36e hcs, fun _ => ⟨rfl, pnJ3⟩⟩, fun _ h => absurd h List.not_mem_nil⟩⟩⟩⟩⟩⟩⟩⟩⟩⟩⟩⟩⟩⟩
def ab_T3 : List ab_Q3 := ab_T3_0 ++ (ab_T3_1 ++ (ab_T3_2 ++ (ab_T3_3 ++ (ab_T3_4 ++ (ab_T3_5 ++ (ab_T3_6 ++ (ab_T3_7 ++ (ab_T3_8 ++ (ab_T3_9 ++ (ab_T3_10 ++ (ab_T3_11 ++ (ab_T3_12 ++ (ab_T3_13 ++ (ab_T3_14 ++ (ab_T3_15)))))))))))))))
theorem ab_A3 {G : ab_G} {xs : List Int32} {d : Nat} {cal : ab_F} (hcs : ab_CS G (ab_Z G xs) ab_Mf cal d) : ∀ q ∈ ab_T3, ab_P3 G xs d cal q := List.forall_mem_append.mpr ⟨ab_A3_0 hcs, List.forall_mem_append.mpr ⟨ab_A3_1 hcs, List.forall_mem_append.mpr ⟨ab_A3_2 hcs, List.forall_mem_append.mpr ⟨ab_A3_3 hcs, List.forall_mem_append.mpr ⟨ab_A3_4 hcs, List.forall_mem_append.mpr ⟨ab_A3_5 hcs, List.forall_mem_append.mpr ⟨ab_A3_6 hcs, List.forall_mem_append.mpr ⟨ab_A3_7 hcs, List.forall_mem_append.mpr ⟨ab_A3_8 hcs, List.forall_mem_append.mpr ⟨ab_A3_9 hcs, List.forall_mem_append.mpr ⟨ab_A3_10 hcs, List.forall_mem_append.mpr ⟨ab_A3_11 hcs, List.forall_mem_append.mpr ⟨ab_A3_12 hcs, List.forall_mem_append.mpr ⟨ab_A3_13 hcs, List.forall_mem_append.mpr ⟨ab_A3_14 hcs, ab_A3_15 hcs⟩⟩⟩⟩⟩⟩⟩⟩⟩⟩⟩⟩⟩⟩⟩
def ab_Pf (i : Nat) : List Nat := match ab_T3[i]? with
  | some q => q.2.1
  | none => []
def ab_Bf (i : Nat) : ab_F → List ab_K := match ab_T3[i]? with
  | some q => q.2.2
  | none => fun _ => []
set_option maxRecDepth 100000 in
theorem ab_MT3 : ab_MT = ab_T3.map (fun q => q.1) := rfl
theorem ab_Mf3 {i : Nat} {q : ab_Q3} (h : ab_T3[i]? = some q) : ab_Mf i = q.1 := by
  unfold ab_Mf
  rw [ab_MT3, List.getD_eq_getElem?_getD, List.getElem?_map, h]
  rfl
section ABE2
variable {G : ab_G} {Z : State → Prop}
theorem ab_ex_CS2 {M : Nat → ab_M} {pcs : Nat → List Nat} {Bk : Nat → ab_F → List ab_K} {F : Nat}
    (hB : ∀ i d cal, ab_CS G Z M cal d → ab_BS G Z (d + 1) (ab_mY (M i) (pcs i)) (pcs i) (Bk i cal) ∧ (Bk i cal ≠ [] → (pcs i)[0]? = some 0 ∧ plainName (M i).1.cls = true)) : ∀ d, ab_CS G Z M (ab_ex (fun i => (M i).2.2.1) Bk F d) d
  | 0 => fun _ _ _ _ _ h => by cases h
  | d + 1 => by
    have ih := ab_ex_CS2 (F := F) hB d
    intro i As w v w' h
    unfold ab_ex at h
    split at h
    · rename_i hc
      obtain ⟨hB1, hB2⟩ := hB i d _ ih
      have hne : Bk i (ab_ex (fun i => (M i).2.2.1) Bk F d) ≠ [] := by
        intro hq
        rw [hq] at h
        cases F <;> simp [ab_run] at h
      refine ⟨ab_run_le (Y := ab_mY (M i) (pcs i)) hB1 _ _ _ _ _ _ h, fun l => ab_met (hB2 hne).2 (hB2 hne).1 hB1 ?_ hc.2 h l⟩
      intro v hv
      have := List.all_eq_true.mp hc.1 v hv
      simpa using this
    · cases h
end ABE2
end
section
/-! ===== the claim out of one run of the engine ===== -/
theorem sw_n0 : Cond.methodLinkNest "DominoKing" 21 ⟨"DominoKing$Thoughts", "<init>", "()V"⟩ "DominoKing" ∈ lw_tbl := List.mem_of_getElem? (i := 157) (by decide +kernel)
theorem sw_n1 : Cond.methodLinkNest "DominoKing" 28 ⟨"DominoKing$Tape", "<init>", "()V"⟩ "DominoKing" ∈ lw_tbl := List.mem_of_getElem? (i := 175) (by decide +kernel)
theorem sw_n2 : Cond.methodLinkNest "DominoKing" 58 ⟨"DominoKing$Sheet", "<init>", "()V"⟩ "DominoKing" ∈ lw_tbl := List.mem_of_getElem? (i := 237) (by decide +kernel)
theorem sw_n3 : Cond.methodLinkNest "DominoKing" 59 ⟨"DominoKing$Slot", "<init>", "()V"⟩ "DominoKing" ∈ lw_tbl := List.mem_of_getElem? (i := 256) (by decide +kernel)
theorem sw_n4 : Cond.methodLinkNest "DominoKing$Slot" 9 ⟨"DominoKing$Sheet", "<init>", "()V"⟩ "DominoKing" ∈ lw_tbl := List.mem_of_getElem? (i := 261) (by decide +kernel)
theorem sw_n5 : Cond.methodLinkNest "DominoKing$Table" 86 ⟨"DominoKing", "within", "(III)Z"⟩ "DominoKing" ∈ lw_tbl := List.mem_of_getElem? (i := 341) (by decide +kernel)
theorem sw_n6 : Cond.methodLinkNest "DominoKing$Table" 114 ⟨"DominoKing", "clamp", "(III)I"⟩ "DominoKing" ∈ lw_tbl := List.mem_of_getElem? (i := 368) (by decide +kernel)
theorem sw_n7 : Cond.methodLinkNest "DominoKing$Sheet" 34 ⟨"DominoKing", "within", "(III)Z"⟩ "DominoKing" ∈ lw_tbl := List.mem_of_getElem? (i := 637) (by decide +kernel)
theorem sw_a0 : Cond.arrayOver (.object "DominoKing$Text") ∈ lw_tbl := List.mem_of_getElem? (i := 89) (by decide +kernel)
theorem sw_a1 : Cond.arrayOver (.object "DominoKing$Sheet") ∈ lw_tbl := List.mem_of_getElem? (i := 233) (by decide +kernel)
theorem sw_a2 : Cond.arrayOver (.object "DominoKing$Slot") ∈ lw_tbl := List.mem_of_getElem? (i := 235) (by decide +kernel)
theorem sw_t0 : Cond.stringRef "DominoKing$Reader" 18 "" ∈ lw_tbl := List.mem_of_getElem? (i := 195) (by decide +kernel)
theorem sw_t1 : Cond.stringRef "DominoKing$Reader" 78 "dark" ∈ lw_tbl := List.mem_of_getElem? (i := 689) (by decide +kernel)
theorem sw_t2 : Cond.stringRef "DominoKing$Reader" 84 "fee" ∈ lw_tbl := List.mem_of_getElem? (i := 742) (by decide +kernel)
theorem sw_t3 : Cond.stringRef "DominoKing$Reader" 86 "fine" ∈ lw_tbl := List.mem_of_getElem? (i := 743) (by decide +kernel)
theorem sw_t4 : Cond.stringRef "DominoKing$Reader" 42 "srk" ∈ lw_tbl := List.mem_of_getElem? (i := 744) (by decide +kernel)
theorem sw_t5 : Cond.stringRef "DominoKing$Reader" 44 "pm" ∈ lw_tbl := List.mem_of_getElem? (i := 745) (by decide +kernel)
theorem sw_t6 : Cond.stringRef "DominoKing$Reader" 46 "lrt" ∈ lw_tbl := List.mem_of_getElem? (i := 746) (by decide +kernel)
theorem sw_z : Cond.laysStatic "DominoKing" "ABOVE" "[I" ∈ lw_tbl := List.mem_of_getElem? (i := 416) (by decide +kernel)
theorem sw_zc : Cond.laysStatic "java/lang/String" "COMPACT_STRINGS" "Z" ∈ lw_tbl := List.mem_of_getElem? (i := 703) (by decide +kernel)
theorem sw_zq : Cond.laysStatic "jdk/internal/util/Preconditions" "SIOOBE_FORMATTER" "Ljava/util/function/BiFunction;" ∈ lw_tbl := List.mem_of_getElem? (i := 719) (by decide +kernel)
theorem sw_ic : Cond.initialized "java/lang/String" ∈ lw_tbl := List.mem_of_getElem? (i := 69) (by decide +kernel)
theorem sw_iq : Cond.initialized "jdk/internal/util/Preconditions" ∈ lw_tbl := List.mem_of_getElem? (i := 71) (by decide +kernel)
theorem sw_f : Cond.fieldLinkNest "DominoKing$Kinds" 9 "DominoKing" "ABOVE" "[I" "DominoKing" ∈ lw_tbl := List.mem_of_getElem? (i := 415) (by decide +kernel)

theorem ab_BfP (G : ab_G) (xs : List Int32) (i d : Nat) (cal : ab_F) (hcs : ab_CS G (ab_Z G xs) ab_Mf cal d) : ab_BS G (ab_Z G xs) (d + 1) (ab_mY (ab_Mf i) (ab_Pf i)) (ab_Pf i) (ab_Bf i cal) ∧ (ab_Bf i cal ≠ [] → (ab_Pf i)[0]? = some 0 ∧ plainName (ab_Mf i).1.cls = true) := by
  unfold ab_Pf ab_Bf
  cases h : ab_T3[i]? with
  | none => exact ⟨trivial, fun h => absurd rfl h⟩
  | some q =>
    have h2 := ab_A3 hcs q (List.mem_of_getElem? h)
    rw [ab_Mf3 h]
    exact h2
/-- the engine's calls -/
abbrev EX (F d : Nat) : ab_F := ab_ex (fun i => (ab_Mf i).2.2.1) ab_Bf F d
theorem EX_CS (G : ab_G) (xs : List Int32) (F d : Nat) : ab_CS G (ab_Z G xs) ab_Mf (EX F d) d := ab_ex_CS2 (pcs := ab_Pf) (fun i d cal h => ab_BfP G xs i d cal h) d
theorem ab_arr {s : State} {args : Array Value} {ty : FieldType} (hob : ∀ C, ty ≠ .object C) (h : (Cond.arrayClass ty).before args s = true) : ∃ cA : ClassId, ArrOfT s cA ty ∧ va_RA s cA ty := by
  obtain ⟨c, k, comp, h1, h2, h3⟩ := Cond.arrayClass_spec h
  refine ⟨c, fun n z => ⟨fun k h => (by cases h), k, h2, comp, h3⟩, ?_⟩
  cases ty with
  | object C => exact absurd rfl (hob C)
  | _ => exact h1
theorem ab_arrO {s : State} {args : Array Value} {C : String} (h : (Cond.arrayOver (.object C)).before args s = true) : ∃ cA : ClassId, ArrOfT s cA (.object C) ∧ va_RA s cA (.object C) := by
  obtain ⟨comp, c, k, h1, h2, h3, h4, h5⟩ := Cond.arrayOver_spec h
  exact ⟨c, fun n z => ⟨fun k h => (by cases h), k, h3, comp, h4⟩, k, comp, h3, h4, h1, h5⟩
theorem ab_vkS {N : Nat} {len : List Nat} {byt : List (List Int32)} {aK aV bK bV : Nat → Nat} {A : Nat → Prop} {U : State} {H : Heap} (h : vk_S N len byt aK aV A U H) (hK : ∀ i, i < N → bK i = aK i) (hV : ∀ i, i < N → bV i = aV i) : vk_S N len byt bK bV A U H := by
  refine ⟨fun i hi => ?_, fun i j hi hj e => ?_⟩
  · rw [hK i hi, hV i hi]; exact h.1 i hi
  · rw [hK i hi, hK j hj] at e; exact h.2 i j hi hj e
def ab_stm (j : Nat) : Term := .string "DominoKing$Reader" ([18, 78, 84, 86, 42, 44, 46].getD j 0)
/-- what the Statement gives of the strings, and of the row of kinds -/
theorem ab_gv_str {args : Array Value} {s : State} {A : Nat → Prop} (hgv : (Jvm.Cond.and given_1 narrow_1).before args s = true) (hA : ∀ a : Nat, a < s.heap.size → ¬ A a) : ∃ adK adV : Nat → Nat, vk_S 7 ab_slen ab_sbyt adK adV A s s.heap ∧ ∀ i : Nat, i < 7 → (ab_stm i).eval args s none [] s = some (.ref (adK i)) := by
  have hs := flat_of_before _ hgv
  refine vk_Sof (N := 7) (tm := ab_stm) (len := ab_slen) (byt := ab_sbyt) ?_ ?_ ?_ ?_ ?_ ?_ ?_ hA
  · decide
  · have h : ∀ i : Nat, i < 7 → Cond.exactly (ab_stm i) "java/lang/String" ∈ flatC (Jvm.Cond.and given_1 narrow_1) := by decide +kernel
    exact fun i hi => hs _ (h i hi)
  · have h : ∀ i : Nat, i < 7 → Cond.eq (.field (ab_stm i) "java/lang/String" "coder" "B") (.int 0) ∈ flatC (Jvm.Cond.and given_1 narrow_1) := by decide +kernel
    exact fun i hi => hs _ (h i hi)
  · have h : ∀ i : Nat, i < 7 → Cond.arrayOf (.field (ab_stm i) "java/lang/String" "value" "[B") .byte ∈ flatC (Jvm.Cond.and given_1 narrow_1) := by decide +kernel
    exact fun i hi => hs _ (h i hi)
  · have h : ∀ i : Nat, i < 7 → Cond.eq (.length (.field (ab_stm i) "java/lang/String" "value" "[B")) (.int (Int32.ofNat (ab_slen.getD i 0))) ∈ flatC (Jvm.Cond.and given_1 narrow_1) := by decide +kernel
    exact fun i hi => hs _ (h i hi)
  · have h : ∀ i : Nat, i < 7 → ∀ j : Nat, j < ab_slen.getD i 0 → Cond.eq (.elem (.field (ab_stm i) "java/lang/String" "value" "[B") (.int (Int32.ofNat j))) (.int ((ab_sbyt.getD i []).getD j 0)) ∈ flatC (Jvm.Cond.and given_1 narrow_1) := by decide +kernel
    exact fun i hi j hj => hs _ (h i hi j hj)
  · have h : ∀ i : Nat, i < 7 → ∀ j : Nat, j < 7 → i ≠ j → Cond.not (Cond.eq (ab_stm i) (ab_stm j)) ∈ flatC (Jvm.Cond.and given_1 narrow_1) ∨ Cond.not (Cond.eq (ab_stm j) (ab_stm i)) ∈ flatC (Jvm.Cond.and given_1 narrow_1) := by decide +kernel
    intro i j hi hj hij
    rcases h i hi j hj hij with q | q
    · exact Or.inl (hs _ q)
    · exact Or.inr (hs _ q)
def ab_atm : Term := .static "DominoKing" "ABOVE" "[I"
theorem ab_gv_above {args : Array Value} {s : State} {A : Nat → Prop} (hgv : (Jvm.Cond.and given_1 narrow_1).before args s = true) (hA : ∀ a : Nat, a < s.heap.size → ¬ A a) : ∃ t : Nat, ab_atm.eval args s none [] s = some (.ref t) ∧ va_T .int t 6 (fun j => .int (ab_above.getD j 0)) A s s.heap := by
  have hs := flat_of_before _ hgv
  refine va_Tof (N := 6) (by decide) (hs _ (by decide +kernel)) (va_eqt (hs _ (by decide +kernel))) ?_ hA
  have h : ∀ j : Nat, j < 6 → Cond.eq (.elem ab_atm (.int (Int32.ofNat j))) (.int (ab_above.getD j 0)) ∈ flatC (Jvm.Cond.and given_1 narrow_1) := by decide +kernel
  exact fun j hj => va_eqt (hs _ (h j hj))
end
section
/-! ===== from the engine's run to the law's walk ===== -/
def R_law : String := "DominoKingLaw"
def lw_P (b : Addr) (xs : List Int32) (args : Array Value) (s : State) : Prop := args = #[.ref b] ∧ s.IntsAt b xs ∧ xs.length ≤ 3072 ∧ (Jvm.Cond.and given_1 narrow_1).before args s = true
def lw_Q (_ : Array Value) (s : State) (o : Outcome) (t : State) : Prop := o = .returned (some (.int 1)) ∧ Framed s o t [] 600000 7302250
def lw_Z (below : List Frame) (a : Array Value) (s : State) : State → Prop := fun t => ∃ o, t.status = .running ∧ Ended t below o ∧ lw_Q a s o t
theorem lw_ret {p : Program} {l : Launch} {e : Env} {s : State} {m : MethodId} {below : List Frame} {meth : Method} {c : Code} {b : Nat} (hx : p.tables.exec = Jvm.exec) (hb : c.code = code) (hr : meth.sig.returnType = ret) (hlocks : meth.locks = false) {pc : Nat} {H : Heap} {ls : Array Slot} (hdg : decode code pc = .ok (.ireturn, 1)) : W p l e room_1 s m #[Value.ref b] below meth c H [] 600000 7302250 (lw_Z below #[Value.ref b] s) (F0 m pc ls [.int 1]) := by
  intro T hT X
  obtain ⟨fs, hret, hrun, hended, hW, hframe⟩ := X.leave (v := some (.int 1)) (hlocks := hlocks) (fun h => by rw [hr] at h; cases h)
  have hmeth' : T.vm.method? m = some meth := X.method'
  refine ⟨T.setFrames fs, ?_, .returned (some (.int 1)), hrun, hended, rfl, ⟨_, rfl⟩, hW, hframe⟩
  jvm_step X.here [X.here.top, hx, hb, hdg, hmeth', hr, ret, narrow_b1]
  (try refine ⟨rfl, ?_⟩); (try refine ⟨rfl, ?_⟩)
  first | (intro acts; rw [hret _ acts rfl rfl rfl]) | rw [hret _ _ rfl rfl rfl]
  exact Steps.refl _
/-- the engine runs the law, and answers 1 -/
def ab_law (xs : List Int32) : Prop := ∃ (F d n : Nat) (w' : ab_W), d ≤ 1300 ∧ ab_run (bL_law xs (EX F d)) n 0 (ab_ent [.ref 1000001] 4) [] [] = some (some (.int 1), w') ∧ w'.length ≤ 600000 ∧ ab_tot w' ≤ 7302250
theorem ab_walk {p : Program} {e : Env} {s : State} {m : MethodId} {below : List Frame} {meth : Method} {c : Code} (l : Launch) {b : Nat} {xs : List Int32} (hlaw : ab_law xs) (hx : p.tables.exec = Jvm.exec) (hb : c.code = code) (hr : meth.sig.returnType = ret) (hml : c.maxLocals = 4) (hown : s.vm.findClass R_law = some m.cls) (hts : ∀ w ∈ lw_tbl, w.before #[Value.ref b] s = true) (hX : va_X b xs.length (fun j => xs.getD j 0) s s.heap) (hbl : b < s.heap.size) (hlocks : meth.locks = false) (hnm : meth.name = "law") (hgv : (Jvm.Cond.and given_1 narrow_1).before #[Value.ref b] s = true) : W p l e room_1 s m #[Value.ref b] below meth c s.heap [] 0 0 (lw_Z below #[Value.ref b] s) (entryFrame m ([Value.ref b] : List Value).toArray 4) := by
  obtain ⟨F, d, n, w', hd, hrun, hw1, hw2⟩ := hlaw
  have hgw : ∀ w ∈ ab_GW, w.before #[Value.ref b] s = true := fun w hw => hts w (List.mem_filter.mp hw).1
  have hA : ∀ a : Nat, a < s.heap.size → ¬ (s.heap.size ≤ a) := fun a h => Nat.not_le.mpr h
  obtain ⟨adK, adV, hvs, hva⟩ := ab_gv_str (A := fun q => s.heap.size ≤ q) hgv hA
  obtain ⟨tA, htA, hTA⟩ := ab_gv_above (A := fun q => s.heap.size ≤ q) hgv hA
  have hsv := flat_of_before _ hgv
  have hZc : va_Z "java/lang/String" "COMPACT_STRINGS" "Z" (.int 1) (fun q => s.heap.size ≤ q) s s.heap := va_Zof (hts _ sw_zc) (hts _ sw_ic) (va_eqi (hsv _ (by decide +kernel))) hA
  have hZq : va_Zq "jdk/internal/util/Preconditions" "SIOOBE_FORMATTER" "Ljava/util/function/BiFunction;" (fun q => s.heap.size ≤ q) s s.heap := va_Zqof (hts _ sw_zq) (hts _ sw_iq) (hsv _ (by decide +kernel)) hA
  obtain ⟨tQ, hZq⟩ : ∃ tQ : Nat, va_Z "jdk/internal/util/Preconditions" "SIOOBE_FORMATTER" "Ljava/util/function/BiFunction;" .null (fun q => s.heap.size ≤ q) s s.heap ∨ va_Z "jdk/internal/util/Preconditions" "SIOOBE_FORMATTER" "Ljava/util/function/BiFunction;" (.ref tQ) (fun q => s.heap.size ≤ q) s s.heap := by
    rcases hZq with z | ⟨t, z⟩
    · exact ⟨0, Or.inl z⟩
    · exact ⟨t, Or.inr z⟩
  obtain ⟨c0, i0, K0⟩ := u_known (C := RX1) (T := TX1) (N := 11) hgw hinX1 (hgw _ w_190)
  obtain ⟨c1, i1, K1⟩ := u_known (C := RX2) (T := TX2) (N := 3) hgw hinX2 (hgw _ w_236)
  obtain ⟨c2, i2, K2⟩ := u_known (C := RX3) (T := TX3) (N := 6) hgw hinX3 (hgw _ w_255)
  obtain ⟨c3, i3, K3⟩ := u_known (C := RX4) (T := TX4) (N := 15) hgw hinX4 (hgw _ w_83)
  obtain ⟨c4, i4, K4⟩ := u_known (C := RX5) (T := TX5) (N := 2) hgw hinX5 (hgw _ w_174)
  obtain ⟨c5, i5, K5⟩ := u_known (C := RX6) (T := TX6) (N := 5) hgw hinX6 (hgw _ w_838)
  obtain ⟨c6, i6, K6⟩ := u_known (C := RX7) (T := TX7) (N := 3) hgw hinX7 (hgw _ w_156)
  obtain ⟨c7, i7, K7⟩ := u_known (C := RX8) (T := TX8) (N := 10) hgw hinX8 (hgw _ w_75)
  obtain ⟨c8, i8, K8⟩ := u_known (C := RX9) (T := TX9) (N := 36) hgw hinX9 (hgw _ w_986)
  obtain ⟨a0, A0⟩ := ab_arr (ty := .int) (fun C h => by cases h) (hgw _ w_154)
  obtain ⟨a1, A1⟩ := ab_arr (ty := .char) (fun C h => by cases h) (hgw _ w_1100)
  obtain ⟨a2, A2⟩ := ab_arr (ty := .boolean) (fun C h => by cases h) (hgw _ w_1101)
  obtain ⟨a3, A3⟩ := ab_arrO (hts _ sw_a1)
  obtain ⟨a4, A4⟩ := ab_arrO (hts _ sw_a2)
  obtain ⟨a5, A5⟩ := ab_arrO (hts _ sw_a0)
  obtain ⟨a6, A6⟩ := ab_arr (ty := .byte) (fun C h => by cases h) (hgw _ w_231)
  let G : ab_G := (((fun k => if k = 0 then c0 else if k = 1 then c1 else if k = 2 then c2 else if k = 3 then c3 else if k = 4 then c4 else if k = 5 then c5 else if k = 6 then c6 else if k = 7 then c7 else c8, fun k => if k = 0 then i0 else if k = 1 then i1 else if k = 2 then i2 else if k = 3 then i3 else if k = 4 then i4 else if k = 5 then i5 else if k = 6 then i6 else if k = 7 then i7 else i8), fun k => if k = 0 then a0 else if k = 1 then a1 else if k = 2 then a2 else if k = 3 then a3 else if k = 4 then a4 else if k = 5 then a5 else a6), (s.heap.size, fun k => if k = 0 then tA else if k = 1 then b else if k = 20 then tQ else if k < 12 then adK (k - 2) else adV (k - 12)))
  have hK : va_K G.1.1 vwCl (ab_tys G) s := by
    refine ⟨fun k q hq => ?_, fun k q hq => ?_⟩
    · match k, hq with
    | 0, hq => cases hq; exact K0
    | 1, hq => cases hq; exact K1
    | 2, hq => cases hq; exact K2
    | 3, hq => cases hq; exact K3
    | 4, hq => cases hq; exact K4
    | 5, hq => cases hq; exact K5
    | 6, hq => cases hq; exact K6
    | 7, hq => cases hq; exact K7
    | 8, hq => cases hq; exact K8
      | k + 9, hq => simp [vwCl] at hq
    · match k, hq with
      | 0, hq => cases hq; exact A0
      | 1, hq => cases hq; exact A1
      | 2, hq => cases hq; exact A2
      | 3, hq => cases hq; exact A3
      | 4, hq => cases hq; exact A4
      | 5, hq => cases hq; exact A5
      | 6, hq => cases hq; exact A6
      | k + 7, hq => simp [ab_tys] at hq
  have hG1 : ∀ j, j < 7 → G.2.2 (2 + j) = adK j := by
    intro j hj
    show (if 2 + j = 0 then tA else if 2 + j = 1 then b else if 2 + j = 20 then tQ else if 2 + j < 12 then adK (2 + j - 2) else adV (2 + j - 12)) = adK j
    rw [if_neg (by omega), if_neg (by omega), if_neg (by omega), if_pos (by omega), Nat.add_sub_cancel_left]
  have hG2 : ∀ j, j < 7 → G.2.2 (12 + j) = adV j := by
    intro j hj
    show (if 12 + j = 0 then tA else if 12 + j = 1 then b else if 12 + j = 20 then tQ else if 12 + j < 12 then adK (12 + j - 2) else adV (12 + j - 12)) = adV j
    rw [if_neg (by omega), if_neg (by omega), if_neg (by omega), if_neg (by omega), Nat.add_sub_cancel_left]
  have hZ : ab_Z G xs s := by
    refine ⟨fun j q hj => ?_, fun j C hj => ?_, fun j q hj => ?_, ⟨?_, va_Nw.of rfl (hts _ sw_f)⟩, hTA, ⟨hX, hbl⟩, ab_vkS hvs hG1 hG2, hZc, hZq, Nat.le_refl _⟩
    · match j, hj with

      | 0, hj => cases hj; exact va_Nw.of rfl (hts _ sw_n0)
      | 1, hj => cases hj; exact va_Nw.of rfl (hts _ sw_n1)
      | 2, hj => cases hj; exact va_Nw.of rfl (hts _ sw_n2)
      | 3, hj => cases hj; exact va_Nw.of rfl (hts _ sw_n3)
      | 4, hj => cases hj; exact va_Nw.of rfl (hts _ sw_n4)
      | 5, hj => cases hj; exact va_Nw.of rfl (hts _ sw_n5)
      | 6, hj => cases hj; exact va_Nw.of rfl (hts _ sw_n6)
      | 7, hj => cases hj; exact va_Nw.of rfl (hts _ sw_n7)
      | j + 8, hj => simp [ab_nst] at hj
    · match j, hj with
      | 0, hj => cases hj; exact va_AO.of (hts _ sw_a0)
      | 1, hj => cases hj; exact va_AO.of (hts _ sw_a1)
      | 2, hj => cases hj; exact va_AO.of (hts _ sw_a2)
      | j + 3, hj => simp [ab_aov] at hj
    · match j, hj with
      | 0, hj => cases hj; exact vk_R.of (A := #[Value.ref b]) (hts _ sw_t0) (hva 0 (by decide))
      | 1, hj => cases hj; exact vk_R.of (A := #[Value.ref b]) (hts _ sw_t1) (hva 1 (by decide))
      | 2, hj => cases hj; exact vk_R.of (A := #[Value.ref b]) (hts _ sw_t2) (hva 2 (by decide))
      | 3, hj => cases hj; exact vk_R.of (A := #[Value.ref b]) (hts _ sw_t3) (hva 3 (by decide))
      | 4, hj => cases hj; exact vk_R.of (A := #[Value.ref b]) (hts _ sw_t4) (hva 4 (by decide))
      | 5, hj => cases hj; exact vk_R.of (A := #[Value.ref b]) (hts _ sw_t5) (hva 5 (by decide))
      | 6, hj => cases hj; exact vk_R.of (A := #[Value.ref b]) (hts _ sw_t6) (hva 6 (by decide))
      | j + 7, hj => simp [ab_txt] at hj
    · exact va_Zref (hts _ sw_z) (hgw _ w_55) htA hA
  have hXx : ab_X G (ab_Z G xs) p s m #[Value.ref b] meth c (ab_mY mL_law pL_law) 0 := ⟨hx, hb, hml, hown, hgw, hK, hZ, rfl, hr, hlocks, hnm, ab_Z_st G xs⟩
  have hR : ab_Rm (d + 1) 0 0 w'.length (ab_tot w') room_1 := by
    show d + 1 ≤ 2048 ∧ 64 * (d + 1) ≤ 84000 ∧ w'.length ≤ 0 + 600000 ∧ ab_tot w' ≤ 0 + 7302250
    omega
  have hQ : ab_Rt G p l e room_1 s m #[Value.ref b] below meth c (lw_Z below #[Value.ref b] s) (ab_mY mL_law pL_law) 0 0 (some (.int 1)) w' := by
    intro hok pc ls H locs ha hS hdg
    refine va_forget (fun q hq => hS.2.2 q hq) ?_
    refine W.widen (k := 600000) (n := 7302250) (by omega) (by omega) ?_
    exact lw_ret hx hb hr hlocks hdg
  obtain ⟨pc, hpc, hJ⟩ := ab_run_J (Y := ab_mY mL_law pL_law) (sL_law (EX_CS G xs F d)) hXx hR hQ n 0 _ _ [] hrun (Nat.le_refl _) (Nat.le_refl _)
  have h0 : pL_law[0]? = some 0 := rfl
  cases h0.symm.trans hpc
  have hl := lv_entry ([Value.ref b]) (n := 4) (Nat.le_of_ble_eq_true rfl)
  rw [lg_entry_eq]
  have hG3 : ab_cv G (.ref 1000001) = .ref b := rfl
  have hJ2 := hJ _ s.heap [] (ab_has_sub hl (fun q hq => by
    have h := ab_lp_ent (G := G) (As := [.ref 1000001]) (nL := 4) (fun v hv => by simp at hv; subst hv; rfl) q hq
    exact h)) ⟨fun k q h => by simp [ab_ws] at h, rfl, by simp⟩ va_S.rf
  exact hJ2
set_option maxHeartbeats 4000000 in
theorem lw_walk (hlaw : ∀ xs : List Int32, xs.length ≤ 3072 → ab_law xs) (l : Launch) (b : Addr) (xs : List Int32) : MetFree l x (headSpec (Jvm.Cond.code x code maxLocals ret :: tables_1) room_1) (lw_P b xs) (fun _ _ _ _ _ => True) lw_Q := by
  refine MetFree.of_bodyS (code := code) (maxLocals := maxLocals) (ret := ret) (by decide) ?_ ?_
  · intro args s m h hn
    obtain ⟨meth, c, h1, h2, h3, h4, h5, h6, -, -⟩ := Cond.code_spec hn (atoms_spec (ws := Jvm.Cond.code x code maxLocals ret :: tables_1) h _ List.mem_cons_self)
    exact ⟨meth, c, h1, h2, h3, h4, h5, h6⟩
  · intro p e s m args below meth c s₁ B hml0 hP _
    obtain ⟨rfl, hx, hbd, hgv⟩ := hP
    obtain ⟨scr, harrAt, hlist, hof, hsmall⟩ := hx
    obtain ⟨hcb, hkn, -, -⟩ := State.arrayAt?_spec harrAt
    have hown : s.vm.findClass R_law = some m.cls := findClass_of_methodNamed B.named
    have hts0 : ∀ c ∈ (Jvm.Cond.code x code maxLocals ret :: tables_1), c.before #[Value.ref b] s = true := atoms_spec (ws := Jvm.Cond.code x code maxLocals ret :: tables_1) B.pre
    have hts : ∀ w ∈ lw_tbl, w.before #[Value.ref b] s = true := k2_hts_sels lw_privs (fun w hw => hts0 w (List.mem_cons_of_mem _ hw)) lw_privs_ok
    have hml : c.maxLocals = 4 := B.maxLocals_eq (hts0 _ List.mem_cons_self)
    have X₀ : Stand p l e room_1 s m #[Value.ref b] below meth c s₁ [] 0 0 := Stand.of_body B
    have hh0 : s₁.heap = s.heap := by rw [B.state]; rfl
    have hsz : scr.slots.size = xs.length := by rw [← Array.length_toList, hlist, List.length_map]
    have hval : ∀ j : Nat, j < xs.length → scr.slots[j]? = some (.int (xs.getD j 0)) := fun j hj => by
      rw [← Array.getElem?_toList, hlist]
      simp [hj]
    have hbl : b < s.heap.size := (Array.getElem?_eq_some_iff.mp hcb).1
    have hX : va_X b xs.length (fun j => xs.getD j 0) s s.heap := ⟨scr, hcb, hof, hkn, hsz, hval⟩
    have K : W p l e room_1 s m #[Value.ref b] below meth c s₁.heap [] 0 0 (lw_Z below #[Value.ref b] s) (entryFrame m ([Value.ref b] : List Value).toArray 4) := by
      rw [hh0]
      exact ab_walk l (hlaw xs hbd) B.exec B.bytes B.returns hml hown hts hX hbl B.notSynchronized (name_of_methodNamed B.named B.method).1 hgv
    obtain ⟨t, a1, o, b1, b2, b3⟩ := K s₁ rfl X₀
    exact ⟨t, o, a1, b1, b2, b3⟩
theorem lw_pre_spec {args : Array Value} {s : State} (h : (Jvm.Cond.and given_1 narrow_1).before args s = true) (hr : rest_1_c.before args s = true) : ∃ (b : Addr) (xs : List Int32), lw_P b xs args s := by
  have hs := flat_of_before _ h
  have hq := flat_of_before _ hr
  have hc : (Cond.count 1).before args s = true := hs _ (by decide +kernel)
  have harr : (Cond.arrayOf (.arg 0) .int).before args s = true := hs _ (by decide +kernel)
  have hle : (Cond.le (.length (.arg 0)) (.int 3072)).before args s = true := hs _ (by decide +kernel)
  have hlen : (Cond.isInt (.length (.arg 0))).before args s = true := hq _ (by decide +kernel)
  have hall : (Cond.all (.arg 0) (.isInt (.elem (.arg 0) (.index 0)))).before args s = true := hq _ (by decide +kernel)
  obtain ⟨b, xs, hb, hx⟩ := State.ints_of_pre rfl harr hlen hall
  have hsm : xs.length < 2 ^ 31 := hx.choose_spec.2.2.2
  have hev : (Term.length (.arg 0)).eval args s none [] s = some (.int xs.length.toInt32) := hx.length_eval hb
  have hv := Cond.le_ints hev (show (Term.int 3072).eval args s none [] s = some (.int 3072) from rfl)
  have hd : xs.length.toInt32 ≤ 3072 := by
    simpa [Cond.before, Cond.holds, hv] using hle
  have hN : xs.length ≤ 3072 := (Int32.ofNat_le_ofNat hsm (by decide)).mp (show Int32.ofNat xs.length ≤ Int32.ofNat 3072 from hd)
  exact ⟨b, xs, Cond.one_arg hc (show args[0]? = some (.ref b) from hb), hx, hN, h⟩
theorem lw_comes (hlaw : ∀ xs : List Int32, xs.length ≤ 3072 → ab_law xs) (l : Launch) : Comes l x (Jvm.Cond.code x code maxLocals ret :: tables_1) room_1 (fun tb e args s => Calls_1 tb e args s ∧ rest_1 tb e args s ∧ Pre_1 tb e args s)
    (fun _ _ args s o t => lw_Q args s o t) := by
  intro p e ha hc hk s m args below hf hfit hheap happ hpre
  obtain ⟨b, xs, hP⟩ := lw_pre_spec hpre.2.2 hpre.2.1
  obtain ⟨k, o, h1, h2, h3, hQ⟩ := lw_walk hlaw l b xs p e ha hc hk s m args below hf ((Spec.applies_iff_loose hf).mp happ).1 hP trivial
  exact ⟨k, o, h1, h2, h3, hQ⟩
theorem lw_frame {s t : State} {o : Outcome} {args : Array Value} (h : Framed s o t [] 600000 7302250) :
    Framed s o t (fieldLocs frame_1_writes args s ++ arrayLocs frame_1_arrays args s ++ staticLocs frame_1_statics s) 600000 7302250 := h
theorem lw_limb (hlaw : ∀ xs : List Int32, xs.length ≤ 3072 → ab_law xs) (L : Cond) (hL : ∀ (args : Array Value) (s t : State), L.after args s (.returned (some (.int 1))) t = true) :
    ArmFor flags0 classFile x code maxLocals ret World_1 tables_1 room_1 Calls_1 rest_1 Pre_1
      (fun tb e a s o t => postC L tb e a s o t ∧ Framed s o t (fieldLocs frame_1_writes a s ++ arrayLocs frame_1_arrays a s ++ staticLocs frame_1_statics s) 600000 7302250) := by
  intro l hflags _ _ p e ha hc hk s m args below hf hfit hheap happ hpre
  obtain ⟨k, o, h1, h2, h3, rfl, hF⟩ := lw_comes hlaw l p e ha hc hk s m args below hf hfit hheap happ hpre
  exact ⟨k, _, h1, h2, h3, hL args s _, lw_frame hF⟩
theorem ab_claim (hlaw : ∀ xs : List Int32, xs.length ≤ 3072 → ab_law xs) : Claimed_1_1 ∧ Claimed_1_2 := ⟨lw_limb hlaw limb_1_1 (fun args s t => by simp [limb_1_1, Cond.after, Cond.holds, Cond.value]), lw_limb hlaw limb_1_2 (fun args s t => Cond.after_iff.mpr (by
  first | (rw [show limb_1_2 = Cond.eq .result (.int 1) from rfl, Cond.eq_ints (x := 1) (y := 1) rfl rfl]; simp; done) | (simp [limb_1_2, Cond.value, Term.eval]; done)))⟩
end
section
/-! ===== running the engine by rules ===== -/
/-- a proposition that no tactic looks into -/
def lock (n : Nat) (p : Prop) : Prop := if n = 0 then p else lock (n - 1) p
termination_by n
decreasing_by omega
theorem lock_eq (p : Prop) : lock 0 p = p := by
  rw [lock]
  exact if_pos rfl
def Rb (B : List ab_K) (N : Nat) (k : ab_K) (lv : ab_L) (st : List Value) (w : ab_W) (r : Option Value × ab_W) : Prop := lock 0 (match k lv st w with
  | none => False
  | some (.inr q) => q = r
  | some (.inl (b, lv', st', w')) => ab_run B N b lv' st' w' = some r)
section RB
variable {B : List ab_K} {N : Nat} {k : ab_K} {lv : ab_L} {st : List Value} {w w' : ab_W} {r : Option Value × ab_W} {b tg i a t : Nat} {x y : Int32} {xs : List Int32}
theorem rn_step (hb : B[b]? = some k) (h : Rb B N k lv st w r) : ab_run B (N + 1) b lv st w = some r := by
  unfold ab_run
  rw [hb]
  dsimp only
  unfold Rb at h
  rw [lock_eq] at h
  revert h
  cases k lv st w with
  | none => intro h; exact h.elim
  | some q =>
    match q with
    | .inl (b', lv', st', w'') => intro h; exact h
    | .inr q => intro h; exact congrArg some h
theorem rb_push {v : Value} (h : Rb B N k lv (v :: st) w r) : Rb B N (o_push v k) lv st w r := h
theorem rb_iload (hv : lv[i]? = some (some (.int x))) (h : Rb B N k lv (.int x :: st) w r) : Rb B N (o_iload i k) lv st w r := by
  simp only [Rb, o_iload, hv]; exact h
theorem rb_aload (hv : lv[i]? = some (some (.ref a))) (h : Rb B N k lv (.ref a :: st) w r) : Rb B N (o_aload i k) lv st w r := by
  simp only [Rb, o_aload, hv]; exact h
theorem rb_aloadN (hv : lv[i]? = some (some .null)) (h : Rb B N k lv (.null :: st) w r) : Rb B N (o_aload i k) lv st w r := by
  simp only [Rb, o_aload, hv]; exact h
theorem rb_istore {lv' : ab_L} (hl : ab_st1 lv i (.int x) = lv') (h : Rb B N k lv' st w r) : Rb B N (o_istore i k) lv (.int x :: st) w r := by subst hl; exact h
theorem rb_astore {lv' : ab_L} (hl : ab_st1 lv i (.ref a) = lv') (h : Rb B N k lv' st w r) : Rb B N (o_astore i k) lv (.ref a :: st) w r := by subst hl; exact h
theorem rb_astoreN {lv' : ab_L} (hl : ab_st1 lv i .null = lv') (h : Rb B N k lv' st w r) : Rb B N (o_astore i k) lv (.null :: st) w r := by subst hl; exact h
theorem rb_iinc {n : Int32} {lv' : ab_L} (hv : lv[i]? = some (some (.int x))) (hl : ab_st1 lv i (.int (x + n)) = lv') (h : Rb B N k lv' st w r) : Rb B N (o_iinc i n k) lv st w r := by
  subst hl; simp only [Rb, o_iinc, hv]; exact h
theorem rb_div0 {f : Int32 → Int32 → Int32} (hy : ¬ y = 0) (h : Rb B N k lv (.int (f x y) :: st) w r) : Rb B N (o_div f k) lv (.int y :: .int x :: st) w r := by
  simp only [Rb, o_div, hy, if_false]; exact h
theorem rb_dupR (h : Rb B N k lv (.ref a :: .ref a :: st) w r) : Rb B N (o_dup k) lv (.ref a :: st) w r := h
theorem rb_dup2 (h : Rb B N k lv (.int x :: .ref a :: .int x :: .ref a :: st) w r) : Rb B N (o_dup2 k) lv (.int x :: .ref a :: st) w r := h
theorem rb_popI (h : Rb B N k lv st w r) : Rb B N (o_pop k) lv (.int x :: st) w r := h
theorem rb_goto (h : ab_run B N tg lv st w = some r) : Rb B N (o_goto tg) lv st w r := by unfold Rb; rw [lock_eq]; exact h
theorem rb_sw {f : Int32 → Nat} (h : ab_run B N (f x) lv st w = some r) : Rb B N (o_sw f) lv (.int x :: st) w r := by unfold Rb; rw [lock_eq]; exact h
theorem rb_ifnullN (h : ab_run B N tg lv st w = some r) : Rb B N (o_ifnull tg k) lv (.null :: st) w r := by unfold Rb; rw [lock_eq]; exact h
theorem rb_ifnullR (h : Rb B N k lv st w r) : Rb B N (o_ifnull tg k) lv (.ref a :: st) w r := h
theorem rb_ifnonnullR (h : ab_run B N tg lv st w = some r) : Rb B N (o_ifnonnull tg k) lv (.ref a :: st) w r := by unfold Rb; rw [lock_eq]; exact h
theorem rb_ifnonnullN (h : Rb B N k lv st w r) : Rb B N (o_ifnonnull tg k) lv (.null :: st) w r := h
theorem rb_ret {rt : Option FieldType} {v : Value} (hok : ab_ok rt (some v) = true) (hr : (some v, w) = r) : Rb B N (o_ret rt) lv [v] w r := by
  simp only [Rb, o_ret, hok, if_true, lock_eq]; exact hr
theorem rb_retv (hr : (none, w) = r) : Rb B N (o_ret none) lv [] w r := by unfold Rb; rw [lock_eq]; exact hr
theorem rb_getf {ci fi : Nat} {v : Value} (hv : ab_gf w a ci fi = some v) (h : Rb B N k lv (v :: st) w r) : Rb B N (o_getf ci fi k) lv (.ref a :: st) w r := by
  simp only [Rb, o_getf, hv]; exact h
theorem rb_putI {ci fi : Nat} (hv : ab_pf w a ci fi (.int x) = some w') (h : Rb B N k lv st w' r) : Rb B N (o_putI ci fi k) lv (.int x :: .ref a :: st) w r := by
  simp only [Rb, o_putI, hv]; exact h
theorem rb_putZ {ci fi : Nat} (hx : x = 0 ∨ x = 1) (hv : ab_pf w a ci fi (.int x) = some w') (h : Rb B N k lv st w' r) : Rb B N (o_putZ ci fi k) lv (.int x :: .ref a :: st) w r := by
  simp only [Rb, o_putZ, hx, hv, if_true]; exact h
theorem rb_putA {ci fi c : Nat} (hv : ab_pf w a ci fi (.ref c) = some w') (h : Rb B N k lv st w' r) : Rb B N (o_putA ci fi k) lv (.ref c :: .ref a :: st) w r := by
  simp only [Rb, o_putA, hv]; exact h
theorem rb_iald {j : Int32} (ha : ab_ia w a t = some xs) (hj : ¬ j < 0) (hx : xs[j.toNatClampNeg]? = some x) (h : Rb B N k lv (.int x :: st) w r) : Rb B N (o_iald t k) lv (.int j :: .ref a :: st) w r := by
  simp only [Rb, o_iald, ha, hj, if_false, hx]; exact h
theorem rb_iast {j : Int32} {f : Int32 → Int32} (ha : ab_ia w a t = some xs) (hj : ¬ j < 0) (hl : j.toNatClampNeg < xs.length) (hw : w.set a (.inr (.inl (t, xs.set j.toNatClampNeg (f x)))) = w') (h : Rb B N k lv st w' r) : Rb B N (o_iast t f k) lv (.int x :: .int j :: .ref a :: st) w r := by
  subst hw; simp only [Rb, o_iast, ha, hj, if_false, hl, if_true]; exact h
theorem rb_aaldR {j : Int32} {rs : List (Option Nat)} {c : Nat} (ha : ab_ra w a t = some rs) (hj : ¬ j < 0) (hx : rs[j.toNatClampNeg]? = some (some c)) (h : Rb B N k lv (.ref c :: st) w r) : Rb B N (o_aald t k) lv (.int j :: .ref a :: st) w r := by
  simp only [Rb, o_aald, ha, hj, if_false, hx, ab_rv]; exact h
theorem rb_aaldN {j : Int32} {rs : List (Option Nat)} (ha : ab_ra w a t = some rs) (hj : ¬ j < 0) (hx : rs[j.toNatClampNeg]? = some none) (h : Rb B N k lv (.null :: st) w r) : Rb B N (o_aald t k) lv (.int j :: .ref a :: st) w r := by
  simp only [Rb, o_aald, ha, hj, if_false, hx, ab_rv]; exact h
theorem rb_aastR {j : Int32} {rs : List (Option Nat)} {c ci : Nat} {fs : List Value} (ha : ab_ra w a t = some rs) (hj : ¬ j < 0) (hc : w[c]? = some (.inl (ci, fs))) (hl : j.toNatClampNeg < rs.length) (hw : w.set a (.inr (.inr (t, rs.set j.toNatClampNeg (some c)))) = w') (h : Rb B N k lv st w' r) : Rb B N (o_aast t ci k) lv (.ref c :: .int j :: .ref a :: st) w r := by
  subst hw; simp only [Rb, o_aast, ha, hj, if_false, hc, hl, and_self, if_true]; exact h
theorem rb_aastN {j : Int32} {rs : List (Option Nat)} {ci : Nat} (ha : ab_ra w a t = some rs) (hj : ¬ j < 0) (hl : j.toNatClampNeg < rs.length) (hw : w.set a (.inr (.inr (t, rs.set j.toNatClampNeg none))) = w') (h : Rb B N k lv st w' r) : Rb B N (o_aast t ci k) lv (.null :: .int j :: .ref a :: st) w r := by
  subst hw; simp only [Rb, o_aast, ha, hj, if_false, hl, if_true]; exact h
theorem rb_alen (ha : ab_ia w a t = some xs) (h : Rb B N k lv (.int (Int32.ofNat xs.length) :: st) w r) : Rb B N (o_alenI t k) lv (.ref a :: st) w r := by
  simp only [Rb, o_alenI, ha]; exact h
theorem rb_xald {j : Nat} {q : Int32} (hq : ¬ q < 0) (hx : xs[q.toNatClampNeg]? = some x) (h : Rb B N k lv (.int x :: st) w r) : Rb B N (o_xald j xs k) lv (.int q :: .ref (1000000 + j) :: st) w r := by
  simp only [Rb, o_xald, true_and, not_false_eq_true, hq, if_true, hx]; exact h
theorem rb_xlen {j : Nat} (h : Rb B N k lv (.int (Int32.ofNat xs.length) :: st) w r) : Rb B N (o_xlen j xs k) lv (.ref (1000000 + j) :: st) w r := by
  simp only [Rb, o_xlen, if_true]; exact h
theorem rb_new {ci : Nat} {fs : List Value} (hw : w.length < 1000000) (h : Rb B N k lv (.ref w.length :: st) (w ++ [.inl (ci, fs)]) r) : Rb B N (o_new ci fs k) lv st w r := by
  simp only [Rb, o_new, hw, if_true]; exact h
theorem rb_newi (hx : ¬ x < 0) (hw : w.length < 1000000) (hn : x.toNatClampNeg ≤ 100000) (h : Rb B N k lv (.ref w.length :: st) (w ++ [.inr (.inl (t, List.replicate x.toNatClampNeg 0))]) r) : Rb B N (o_newi t k) lv (.int x :: st) w r := by
  simp only [Rb, o_newi, hx, hw, hn, and_self, if_true, if_false]; exact h
theorem rb_oinit (hc : ab_cl st = true) (h : Rb B N k lv st w r) : Rb B N (o_oinit k) lv (.ref a :: st) w r := by
  simp only [Rb, o_oinit, hc, if_true]; exact h
theorem rb_acopy {n dp sp : Int32} {c : Nat} {ys : List Int32} (ha : ab_ia w a 0 = some xs) (hc : ab_ia w c 0 = some ys) (h1 : ¬ sp < 0) (h2 : ¬ dp < 0) (h3 : ¬ n < 0) (h4 : sp.toNatClampNeg + n.toNatClampNeg ≤ xs.length) (h5 : dp.toNatClampNeg + n.toNatClampNeg ≤ ys.length) (hcl : ab_cl st = true) (hw : w.set c (.inr (.inl (0, ab_cp xs ys sp.toNatClampNeg dp.toNatClampNeg n.toNatClampNeg))) = w') (h : Rb B N k lv st w' r) : Rb B N (o_acopy k) lv (.int n :: .int dp :: .ref c :: .int sp :: .ref a :: st) w r := by
  subst hw; simp only [Rb, o_acopy, ha, hc, h1, h2, h3, or_self, if_false, h4, h5, hcl, and_self, if_true]; exact h
theorem rb_ceq (h1 : x = y → ab_run B N tg lv st w = some r) (h2 : ¬ (x = y) → Rb B N k lv st w r) : Rb B N (o_cmp (fun x y => decide (x = y)) tg k) lv (.int y :: .int x :: st) w r := by
  unfold Rb o_cmp
  by_cases hq : x = y
  · simp only [decide_eq_true hq, if_true, lock_eq]; exact h1 hq
  · simp only [decide_eq_false hq, if_false, Bool.false_eq_true]; exact h2 hq
theorem rb_cne (h1 : ¬ x = y → ab_run B N tg lv st w = some r) (h2 : ¬ (¬ x = y) → Rb B N k lv st w r) : Rb B N (o_cmp (fun x y => decide (¬ x = y)) tg k) lv (.int y :: .int x :: st) w r := by
  unfold Rb o_cmp
  by_cases hq : ¬ x = y
  · simp only [decide_eq_true hq, if_true, lock_eq]; exact h1 hq
  · simp only [decide_eq_false hq, if_false, Bool.false_eq_true]; exact h2 hq
theorem rb_clt (h1 : x < y → ab_run B N tg lv st w = some r) (h2 : ¬ (x < y) → Rb B N k lv st w r) : Rb B N (o_cmp (fun x y => decide (x < y)) tg k) lv (.int y :: .int x :: st) w r := by
  unfold Rb o_cmp
  by_cases hq : x < y
  · simp only [decide_eq_true hq, if_true, lock_eq]; exact h1 hq
  · simp only [decide_eq_false hq, if_false, Bool.false_eq_true]; exact h2 hq
theorem rb_cge (h1 : y ≤ x → ab_run B N tg lv st w = some r) (h2 : ¬ (y ≤ x) → Rb B N k lv st w r) : Rb B N (o_cmp (fun x y => decide (y ≤ x)) tg k) lv (.int y :: .int x :: st) w r := by
  unfold Rb o_cmp
  by_cases hq : y ≤ x
  · simp only [decide_eq_true hq, if_true, lock_eq]; exact h1 hq
  · simp only [decide_eq_false hq, if_false, Bool.false_eq_true]; exact h2 hq
theorem rb_cgt (h1 : y < x → ab_run B N tg lv st w = some r) (h2 : ¬ (y < x) → Rb B N k lv st w r) : Rb B N (o_cmp (fun x y => decide (y < x)) tg k) lv (.int y :: .int x :: st) w r := by
  unfold Rb o_cmp
  by_cases hq : y < x
  · simp only [decide_eq_true hq, if_true, lock_eq]; exact h1 hq
  · simp only [decide_eq_false hq, if_false, Bool.false_eq_true]; exact h2 hq
theorem rb_cle (h1 : x ≤ y → ab_run B N tg lv st w = some r) (h2 : ¬ (x ≤ y) → Rb B N k lv st w r) : Rb B N (o_cmp (fun x y => decide (x ≤ y)) tg k) lv (.int y :: .int x :: st) w r := by
  unfold Rb o_cmp
  by_cases hq : x ≤ y
  · simp only [decide_eq_true hq, if_true, lock_eq]; exact h1 hq
  · simp only [decide_eq_false hq, if_false, Bool.false_eq_true]; exact h2 hq
theorem rb_ieq (h1 : x = 0 → ab_run B N tg lv st w = some r) (h2 : ¬ (x = 0) → Rb B N k lv st w r) : Rb B N (o_if (fun x => decide (x = 0)) tg k) lv (.int x :: st) w r := by
  unfold Rb o_if
  by_cases hq : x = 0
  · simp only [decide_eq_true hq, if_true, lock_eq]; exact h1 hq
  · simp only [decide_eq_false hq, if_false, Bool.false_eq_true]; exact h2 hq
theorem rb_ine (h1 : ¬ x = 0 → ab_run B N tg lv st w = some r) (h2 : ¬ (¬ x = 0) → Rb B N k lv st w r) : Rb B N (o_if (fun x => decide (¬ x = 0)) tg k) lv (.int x :: st) w r := by
  unfold Rb o_if
  by_cases hq : ¬ x = 0
  · simp only [decide_eq_true hq, if_true, lock_eq]; exact h1 hq
  · simp only [decide_eq_false hq, if_false, Bool.false_eq_true]; exact h2 hq
theorem rb_ilt (h1 : x < 0 → ab_run B N tg lv st w = some r) (h2 : ¬ (x < 0) → Rb B N k lv st w r) : Rb B N (o_if (fun x => decide (x < 0)) tg k) lv (.int x :: st) w r := by
  unfold Rb o_if
  by_cases hq : x < 0
  · simp only [decide_eq_true hq, if_true, lock_eq]; exact h1 hq
  · simp only [decide_eq_false hq, if_false, Bool.false_eq_true]; exact h2 hq
theorem rb_ige (h1 : 0 ≤ x → ab_run B N tg lv st w = some r) (h2 : ¬ (0 ≤ x) → Rb B N k lv st w r) : Rb B N (o_if (fun x => decide (0 ≤ x)) tg k) lv (.int x :: st) w r := by
  unfold Rb o_if
  by_cases hq : 0 ≤ x
  · simp only [decide_eq_true hq, if_true, lock_eq]; exact h1 hq
  · simp only [decide_eq_false hq, if_false, Bool.false_eq_true]; exact h2 hq
theorem rb_ile (h1 : x ≤ 0 → ab_run B N tg lv st w = some r) (h2 : ¬ (x ≤ 0) → Rb B N k lv st w r) : Rb B N (o_if (fun x => decide (x ≤ 0)) tg k) lv (.int x :: st) w r := by
  unfold Rb o_if
  by_cases hq : x ≤ 0
  · simp only [decide_eq_true hq, if_true, lock_eq]; exact h1 hq
  · simp only [decide_eq_false hq, if_false, Bool.false_eq_true]; exact h2 hq
theorem rb_callV0 {cal : ab_F} {ci : Nat} {fs : List Value} {v : Value} (hb : w[b]? = some (.inl (ci, fs))) (hcl : ab_cl st = true) (hc : cal i [.ref b] w = some (some v, w')) (h : Rb B N k lv (v :: st) w' r) : Rb B N (o_callV cal i 0 ci k) lv (.ref b :: st) w r := by
  have e : (List.take 0 (.ref b :: st)).reverse = [] := rfl
  have e1 : List.drop 0 (.ref b :: st) = .ref b :: st := rfl
  unfold Rb o_callV
  rw [e1, e]
  dsimp only
  rw [hb]
  dsimp only
  rw [if_pos ⟨rfl, hcl⟩, hc]
  exact h
theorem rb_callV0v {cal : ab_F} {ci : Nat} {fs : List Value}  (hb : w[b]? = some (.inl (ci, fs))) (hcl : ab_cl st = true) (hc : cal i [.ref b] w = some (none, w')) (h : Rb B N k lv st w' r) : Rb B N (o_callV cal i 0 ci k) lv (.ref b :: st) w r := by
  have e : (List.take 0 (.ref b :: st)).reverse = [] := rfl
  have e1 : List.drop 0 (.ref b :: st) = .ref b :: st := rfl
  unfold Rb o_callV
  rw [e1, e]
  dsimp only
  rw [hb]
  dsimp only
  rw [if_pos ⟨rfl, hcl⟩, hc]
  exact h
theorem rb_callS1 {cal : ab_F} {v v1 : Value} (hcl : ab_cl st = true) (hc : cal i [v1] w = some (some v, w')) (h : Rb B N k lv (v :: st) w' r) : Rb B N (o_callS cal i 1 k) lv (v1 :: st) w r := by
  have e : (List.take 1 (v1 :: st)).reverse = [v1] := rfl
  have e2 : List.drop 1 (v1 :: st) = st := rfl
  unfold Rb o_callS
  rw [e, e2, if_pos ⟨by simp, hcl⟩, hc]
  exact h
theorem rb_callV1 {cal : ab_F} {ci : Nat} {fs : List Value} {v v1 : Value} (hb : w[b]? = some (.inl (ci, fs))) (hcl : ab_cl st = true) (hc : cal i [.ref b, v1] w = some (some v, w')) (h : Rb B N k lv (v :: st) w' r) : Rb B N (o_callV cal i 1 ci k) lv (v1 :: .ref b :: st) w r := by
  have e : (List.take 1 (v1 :: .ref b :: st)).reverse = [v1] := rfl
  have e1 : List.drop 1 (v1 :: .ref b :: st) = .ref b :: st := rfl
  unfold Rb o_callV
  rw [e1, e]
  dsimp only
  rw [hb]
  dsimp only
  rw [if_pos ⟨rfl, hcl⟩, hc]
  exact h
theorem rb_callV1v {cal : ab_F} {ci : Nat} {fs : List Value} {v1 : Value} (hb : w[b]? = some (.inl (ci, fs))) (hcl : ab_cl st = true) (hc : cal i [.ref b, v1] w = some (none, w')) (h : Rb B N k lv st w' r) : Rb B N (o_callV cal i 1 ci k) lv (v1 :: .ref b :: st) w r := by
  have e : (List.take 1 (v1 :: .ref b :: st)).reverse = [v1] := rfl
  have e1 : List.drop 1 (v1 :: .ref b :: st) = .ref b :: st := rfl
  unfold Rb o_callV
  rw [e1, e]
  dsimp only
  rw [hb]
  dsimp only
  rw [if_pos ⟨rfl, hcl⟩, hc]
  exact h
theorem rb_callS2 {cal : ab_F} {v v1 v2 : Value} (hcl : ab_cl st = true) (hc : cal i [v1, v2] w = some (some v, w')) (h : Rb B N k lv (v :: st) w' r) : Rb B N (o_callS cal i 2 k) lv (v2 :: v1 :: st) w r := by
  have e : (List.take 2 (v2 :: v1 :: st)).reverse = [v1, v2] := rfl
  have e2 : List.drop 2 (v2 :: v1 :: st) = st := rfl
  unfold Rb o_callS
  rw [e, e2, if_pos ⟨by simp, hcl⟩, hc]
  exact h
theorem rb_callS2v {cal : ab_F} {v1 v2 : Value} (hcl : ab_cl st = true) (hc : cal i [v1, v2] w = some (none, w')) (h : Rb B N k lv st w' r) : Rb B N (o_callS cal i 2 k) lv (v2 :: v1 :: st) w r := by
  have e : (List.take 2 (v2 :: v1 :: st)).reverse = [v1, v2] := rfl
  have e2 : List.drop 2 (v2 :: v1 :: st) = st := rfl
  unfold Rb o_callS
  rw [e, e2, if_pos ⟨by simp, hcl⟩, hc]
  exact h
theorem rb_callV2 {cal : ab_F} {ci : Nat} {fs : List Value} {v v1 v2 : Value} (hb : w[b]? = some (.inl (ci, fs))) (hcl : ab_cl st = true) (hc : cal i [.ref b, v1, v2] w = some (some v, w')) (h : Rb B N k lv (v :: st) w' r) : Rb B N (o_callV cal i 2 ci k) lv (v2 :: v1 :: .ref b :: st) w r := by
  have e : (List.take 2 (v2 :: v1 :: .ref b :: st)).reverse = [v1, v2] := rfl
  have e1 : List.drop 2 (v2 :: v1 :: .ref b :: st) = .ref b :: st := rfl
  unfold Rb o_callV
  rw [e1, e]
  dsimp only
  rw [hb]
  dsimp only
  rw [if_pos ⟨rfl, hcl⟩, hc]
  exact h
theorem rb_callV2v {cal : ab_F} {ci : Nat} {fs : List Value} {v1 v2 : Value} (hb : w[b]? = some (.inl (ci, fs))) (hcl : ab_cl st = true) (hc : cal i [.ref b, v1, v2] w = some (none, w')) (h : Rb B N k lv st w' r) : Rb B N (o_callV cal i 2 ci k) lv (v2 :: v1 :: .ref b :: st) w r := by
  have e : (List.take 2 (v2 :: v1 :: .ref b :: st)).reverse = [v1, v2] := rfl
  have e1 : List.drop 2 (v2 :: v1 :: .ref b :: st) = .ref b :: st := rfl
  unfold Rb o_callV
  rw [e1, e]
  dsimp only
  rw [hb]
  dsimp only
  rw [if_pos ⟨rfl, hcl⟩, hc]
  exact h
theorem rb_callS3 {cal : ab_F} {v v1 v2 v3 : Value} (hcl : ab_cl st = true) (hc : cal i [v1, v2, v3] w = some (some v, w')) (h : Rb B N k lv (v :: st) w' r) : Rb B N (o_callS cal i 3 k) lv (v3 :: v2 :: v1 :: st) w r := by
  have e : (List.take 3 (v3 :: v2 :: v1 :: st)).reverse = [v1, v2, v3] := rfl
  have e2 : List.drop 3 (v3 :: v2 :: v1 :: st) = st := rfl
  unfold Rb o_callS
  rw [e, e2, if_pos ⟨by simp, hcl⟩, hc]
  exact h
theorem rb_callV3 {cal : ab_F} {ci : Nat} {fs : List Value} {v v1 v2 v3 : Value} (hb : w[b]? = some (.inl (ci, fs))) (hcl : ab_cl st = true) (hc : cal i [.ref b, v1, v2, v3] w = some (some v, w')) (h : Rb B N k lv (v :: st) w' r) : Rb B N (o_callV cal i 3 ci k) lv (v3 :: v2 :: v1 :: .ref b :: st) w r := by
  have e : (List.take 3 (v3 :: v2 :: v1 :: .ref b :: st)).reverse = [v1, v2, v3] := rfl
  have e1 : List.drop 3 (v3 :: v2 :: v1 :: .ref b :: st) = .ref b :: st := rfl
  unfold Rb o_callV
  rw [e1, e]
  dsimp only
  rw [hb]
  dsimp only
  rw [if_pos ⟨rfl, hcl⟩, hc]
  exact h
theorem rb_callV3v {cal : ab_F} {ci : Nat} {fs : List Value} {v1 v2 v3 : Value} (hb : w[b]? = some (.inl (ci, fs))) (hcl : ab_cl st = true) (hc : cal i [.ref b, v1, v2, v3] w = some (none, w')) (h : Rb B N k lv st w' r) : Rb B N (o_callV cal i 3 ci k) lv (v3 :: v2 :: v1 :: .ref b :: st) w r := by
  have e : (List.take 3 (v3 :: v2 :: v1 :: .ref b :: st)).reverse = [v1, v2, v3] := rfl
  have e1 : List.drop 3 (v3 :: v2 :: v1 :: .ref b :: st) = .ref b :: st := rfl
  unfold Rb o_callV
  rw [e1, e]
  dsimp only
  rw [hb]
  dsimp only
  rw [if_pos ⟨rfl, hcl⟩, hc]
  exact h
theorem rb_callS4 {cal : ab_F} {v v1 v2 v3 v4 : Value} (hcl : ab_cl st = true) (hc : cal i [v1, v2, v3, v4] w = some (some v, w')) (h : Rb B N k lv (v :: st) w' r) : Rb B N (o_callS cal i 4 k) lv (v4 :: v3 :: v2 :: v1 :: st) w r := by
  have e : (List.take 4 (v4 :: v3 :: v2 :: v1 :: st)).reverse = [v1, v2, v3, v4] := rfl
  have e2 : List.drop 4 (v4 :: v3 :: v2 :: v1 :: st) = st := rfl
  unfold Rb o_callS
  rw [e, e2, if_pos ⟨by simp, hcl⟩, hc]
  exact h
theorem rb_callV4 {cal : ab_F} {ci : Nat} {fs : List Value} {v v1 v2 v3 v4 : Value} (hb : w[b]? = some (.inl (ci, fs))) (hcl : ab_cl st = true) (hc : cal i [.ref b, v1, v2, v3, v4] w = some (some v, w')) (h : Rb B N k lv (v :: st) w' r) : Rb B N (o_callV cal i 4 ci k) lv (v4 :: v3 :: v2 :: v1 :: .ref b :: st) w r := by
  have e : (List.take 4 (v4 :: v3 :: v2 :: v1 :: .ref b :: st)).reverse = [v1, v2, v3, v4] := rfl
  have e1 : List.drop 4 (v4 :: v3 :: v2 :: v1 :: .ref b :: st) = .ref b :: st := rfl
  unfold Rb o_callV
  rw [e1, e]
  dsimp only
  rw [hb]
  dsimp only
  rw [if_pos ⟨rfl, hcl⟩, hc]
  exact h
theorem rb_callI4v {cal : ab_F} {v1 v2 v3 v4 : Value} (hcl : ab_cl st = true) (hc : cal i [.ref b, v1, v2, v3, v4] w = some (none, w')) (h : Rb B N k lv st w' r) : Rb B N (o_callI cal i 4 k) lv (v4 :: v3 :: v2 :: v1 :: .ref b :: st) w r := by
  have e : (List.take 4 (v4 :: v3 :: v2 :: v1 :: .ref b :: st)).reverse = [v1, v2, v3, v4] := rfl
  have e1 : List.drop 4 (v4 :: v3 :: v2 :: v1 :: .ref b :: st) = .ref b :: st := rfl
  unfold Rb o_callI
  rw [e1, e]
  dsimp only
  rw [if_pos hcl, hc]
  exact h
theorem rb_callS5 {cal : ab_F} {v v1 v2 v3 v4 v5 : Value} (hcl : ab_cl st = true) (hc : cal i [v1, v2, v3, v4, v5] w = some (some v, w')) (h : Rb B N k lv (v :: st) w' r) : Rb B N (o_callS cal i 5 k) lv (v5 :: v4 :: v3 :: v2 :: v1 :: st) w r := by
  have e : (List.take 5 (v5 :: v4 :: v3 :: v2 :: v1 :: st)).reverse = [v1, v2, v3, v4, v5] := rfl
  have e2 : List.drop 5 (v5 :: v4 :: v3 :: v2 :: v1 :: st) = st := rfl
  unfold Rb o_callS
  rw [e, e2, if_pos ⟨by simp, hcl⟩, hc]
  exact h
theorem rb_callV5 {cal : ab_F} {ci : Nat} {fs : List Value} {v v1 v2 v3 v4 v5 : Value} (hb : w[b]? = some (.inl (ci, fs))) (hcl : ab_cl st = true) (hc : cal i [.ref b, v1, v2, v3, v4, v5] w = some (some v, w')) (h : Rb B N k lv (v :: st) w' r) : Rb B N (o_callV cal i 5 ci k) lv (v5 :: v4 :: v3 :: v2 :: v1 :: .ref b :: st) w r := by
  have e : (List.take 5 (v5 :: v4 :: v3 :: v2 :: v1 :: .ref b :: st)).reverse = [v1, v2, v3, v4, v5] := rfl
  have e1 : List.drop 5 (v5 :: v4 :: v3 :: v2 :: v1 :: .ref b :: st) = .ref b :: st := rfl
  unfold Rb o_callV
  rw [e1, e]
  dsimp only
  rw [hb]
  dsimp only
  rw [if_pos ⟨rfl, hcl⟩, hc]
  exact h
theorem rb_binL {f : Int32 → Int32 → Int32} {z : Int32} (hz : f x y = z) (h : Rb B N k lv (.int z :: st) w r) : Rb B N (o_bin f k) lv (.int y :: .int x :: st) w r := by subst hz; exact h
theorem rb_divL {f : Int32 → Int32 → Int32} {z : Int32} (hy : ¬ y = 0) (hz : f x y = z) (h : Rb B N k lv (.int z :: st) w r) : Rb B N (o_div f k) lv (.int y :: .int x :: st) w r := by subst hz; exact rb_div0 hy h
theorem rb_m2L {f : Int32 → Int32 → Int32} {z : Int32} (hc : ab_cl st = true) (hz : f x y = z) (h : Rb B N k lv (.int z :: st) w r) : Rb B N (o_m2 f k) lv (.int y :: .int x :: st) w r := by
  subst hz; simp only [Rb, o_m2, hc, if_true]; exact h
theorem rb_unL {f : Int32 → Int32} {z : Int32} (hz : f x = z) (h : Rb B N k lv (.int z :: st) w r) : Rb B N (o_un f k) lv (.int x :: st) w r := by subst hz; exact h
theorem rb_m1L {f : Int32 → Int32} {z : Int32} (hc : ab_cl st = true) (hz : f x = z) (h : Rb B N k lv (.int z :: st) w r) : Rb B N (o_m1 f k) lv (.int x :: st) w r := by
  subst hz; simp only [Rb, o_m1, hc, if_true]; exact h
theorem rb_swL {f : Int32 → Nat} {n : Nat} (hf : f x = n) (h : ab_run B N n lv st w = some r) : Rb B N (o_sw f) lv (.int x :: st) w r := by subst hf; exact rb_sw h
theorem rb_alenL {z : Int32} (ha : ab_ia w a t = some xs) (hz : Int32.ofNat xs.length = z) (h : Rb B N k lv (.int z :: st) w r) : Rb B N (o_alenI t k) lv (.ref a :: st) w r := by subst hz; exact rb_alen ha h
end RB
end
section
/-! ===== the methods' entries ===== -/
abbrev FU : Nat := 1000000
theorem EX_run {d i nL : Nat} {Bk : ab_F → List ab_K} {As : List Value} {w : ab_W} {r : Option Value × ab_W} (hB : ab_Bf i = Bk) (hL : (ab_Mf i).2.2.1 = nL) (h1 : As.all (fun v => v.category == 1) = true) (h2 : As.length ≤ nL) (h : ab_run (Bk (EX FU d)) FU 0 (ab_ent As nL) [] w = some r) : EX FU (d + 1) i As w = some r := by
  subst hB hL
  show (if _ then _ else _) = _
  rw [if_pos ⟨h1, h2⟩]
  exact h
end
