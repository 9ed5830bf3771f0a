/-! ===== a row of a long code array by its bytes: the array is read once, into one large number ===== -/
theorem db_bind {α β : Type} {r : Decoder α} {f : α → Decoder β} {c : ByteArray} {p q : Nat} {a : α} (h : Reader.runAt r c p = .ok (a, q)) : Reader.runAt (r >>= f) c p = Reader.runAt (f a) c q := by
  have h' : r c p = .ok (a, q) := h
  show (bind (r c p) (fun x => f x.1 c x.2) : Except DecodeError (β × Nat)) = f a c q
  rw [h']
  rfl
theorem db_u1 {c : ByteArray} {p : Nat} (h : p < c.size) : Reader.runAt (Reader.u1 : Decoder Nat) c p = .ok ((c[p]'h).toNat, p + 1) := by
  show (dite (p < c.size) (fun h => (do set (p + 1); pure (c[p]'h).toNat : Decoder Nat)) (fun _ => throw (HasTruncated.truncated p))) c p = _
  rw [dif_pos h]
  rfl
def By (c : ByteArray) (p b : Nat) : Prop := ∃ h : p < c.size, (c[p]'h).toNat = b
theorem db_1 {c : ByteArray} {p b : Nat} (h : By c p b) : Reader.runAt (Reader.u1 : Decoder Nat) c p = .ok (b, p + 1) := by
  obtain ⟨h1, h2⟩ := h
  rw [db_u1 h1, h2]
theorem db_u2 {c : ByteArray} {p a b : Nat} (h : By c p a) (h2 : By c (p + 1) b) : Reader.runAt (Reader.u2 : Decoder Nat) c p = .ok (a * 256 + b, p + 1 + 1) := by
  unfold Reader.u2
  rw [db_bind (db_1 h), db_bind (db_1 h2)]
  rfl
theorem db_s2 {c : ByteArray} {p a b : Nat} (h : By c p a) (h2 : By c (p + 1) b) : Reader.runAt (Reader.s2 : Decoder Int) c p = .ok (Reader.signed 16 (a * 256 + b), p + 1 + 1) := by
  have h' : (Reader.u2 : Decoder Nat) c p = .ok (a * 256 + b, p + 1 + 1) := db_u2 h h2
  show (bind ((Reader.u2 : Decoder Nat) c p) (fun x => pure (Reader.signed 16 x.1, x.2)) : Except DecodeError (Int × Nat)) = _
  rw [h']
  rfl
theorem de_3 {c : ByteArray} {p : Nat} (h : By c p 3) : decode c p = .ok (.iconst 0, 1) := by
  unfold decode Decoder.instr
  rw [db_bind (db_1 h)]
  show (Except.ok (.iconst 0, p + 1 - p) : Except DecodeError (Instr × Nat)) = _
  rw [Nat.add_sub_cancel_left]
theorem de_4 {c : ByteArray} {p : Nat} (h : By c p 4) : decode c p = .ok (.iconst 1, 1) := by
  unfold decode Decoder.instr
  rw [db_bind (db_1 h)]
  show (Except.ok (.iconst 1, p + 1 - p) : Except DecodeError (Instr × Nat)) = _
  rw [Nat.add_sub_cancel_left]
theorem de_5 {c : ByteArray} {p : Nat} (h : By c p 5) : decode c p = .ok (.iconst 2, 1) := by
  unfold decode Decoder.instr
  rw [db_bind (db_1 h)]
  show (Except.ok (.iconst 2, p + 1 - p) : Except DecodeError (Instr × Nat)) = _
  rw [Nat.add_sub_cancel_left]
theorem de_6 {c : ByteArray} {p : Nat} (h : By c p 6) : decode c p = .ok (.iconst 3, 1) := by
  unfold decode Decoder.instr
  rw [db_bind (db_1 h)]
  show (Except.ok (.iconst 3, p + 1 - p) : Except DecodeError (Instr × Nat)) = _
  rw [Nat.add_sub_cancel_left]
theorem de_29 {c : ByteArray} {p : Nat} (h : By c p 29) : decode c p = .ok (.iload_n 3, 1) := by
  unfold decode Decoder.instr
  rw [db_bind (db_1 h)]
  show (Except.ok (.iload_n 3, p + 1 - p) : Except DecodeError (Instr × Nat)) = _
  rw [Nat.add_sub_cancel_left]
theorem de_42 {c : ByteArray} {p : Nat} (h : By c p 42) : decode c p = .ok (.aload_n 0, 1) := by
  unfold decode Decoder.instr
  rw [db_bind (db_1 h)]
  show (Except.ok (.aload_n 0, p + 1 - p) : Except DecodeError (Instr × Nat)) = _
  rw [Nat.add_sub_cancel_left]
theorem de_43 {c : ByteArray} {p : Nat} (h : By c p 43) : decode c p = .ok (.aload_n 1, 1) := by
  unfold decode Decoder.instr
  rw [db_bind (db_1 h)]
  show (Except.ok (.aload_n 1, p + 1 - p) : Except DecodeError (Instr × Nat)) = _
  rw [Nat.add_sub_cancel_left]
theorem de_44 {c : ByteArray} {p : Nat} (h : By c p 44) : decode c p = .ok (.aload_n 2, 1) := by
  unfold decode Decoder.instr
  rw [db_bind (db_1 h)]
  show (Except.ok (.aload_n 2, p + 1 - p) : Except DecodeError (Instr × Nat)) = _
  rw [Nat.add_sub_cancel_left]
theorem de_46 {c : ByteArray} {p : Nat} (h : By c p 46) : decode c p = .ok (.iaload, 1) := by
  unfold decode Decoder.instr
  rw [db_bind (db_1 h)]
  show (Except.ok (.iaload, p + 1 - p) : Except DecodeError (Instr × Nat)) = _
  rw [Nat.add_sub_cancel_left]
theorem de_87 {c : ByteArray} {p : Nat} (h : By c p 87) : decode c p = .ok (.pop, 1) := by
  unfold decode Decoder.instr
  rw [db_bind (db_1 h)]
  show (Except.ok (.pop, p + 1 - p) : Except DecodeError (Instr × Nat)) = _
  rw [Nat.add_sub_cancel_left]
theorem de_96 {c : ByteArray} {p : Nat} (h : By c p 96) : decode c p = .ok (.iadd, 1) := by
  unfold decode Decoder.instr
  rw [db_bind (db_1 h)]
  show (Except.ok (.iadd, p + 1 - p) : Except DecodeError (Instr × Nat)) = _
  rw [Nat.add_sub_cancel_left]
theorem de_182 {c : ByteArray} {p a b v : Nat} (h : By c p 182) (h1 : By c (p + 1) a) (h2 : By c (p + 1 + 1) b) (hv : a * 256 + b = v) : decode c p = .ok (.invokevirtual v, 3) := by
  unfold decode Decoder.instr
  rw [db_bind (db_1 h)]
  show (bind (Reader.runAt ((Reader.u2 : Decoder Nat) >>= fun x => pure (Instr.invokevirtual x)) c (p + 1)) (fun x => pure (x.1, x.2 - p)) : Except DecodeError (Instr × Nat)) = _
  rw [db_bind (db_u2 h1 h2), hv]
  show (Except.ok (Instr.invokevirtual v, p + 1 + 1 + 1 - p) : Except DecodeError (Instr × Nat)) = _
  rw [show p + 1 + 1 + 1 - p = 3 by omega]
theorem de_167 {c : ByteArray} {p a b : Nat} {v : Int} (h : By c p 167) (h1 : By c (p + 1) a) (h2 : By c (p + 1 + 1) b) (hv : Reader.signed 16 (a * 256 + b) = v) : decode c p = .ok (.goto v, 3) := by
  unfold decode Decoder.instr
  rw [db_bind (db_1 h)]
  show (bind (Reader.runAt ((Reader.s2 : Decoder Int) >>= fun x => pure (Instr.goto x)) c (p + 1)) (fun x => pure (x.1, x.2 - p)) : Except DecodeError (Instr × Nat)) = _
  rw [db_bind (db_s2 h1 h2), hv]
  show (Except.ok (Instr.goto v, p + 1 + 1 + 1 - p) : Except DecodeError (Instr × Nat)) = _
  rw [show p + 1 + 1 + 1 - p = 3 by omega]
def db_chk : List UInt8 → Nat → Bool
  | [], _ => true
  | b :: l, B => (b.toNat == B % 256) && db_chk l (B / 256)
theorem db_get : ∀ (l : List UInt8) (B i : Nat) (b : UInt8), db_chk l B = true → l[i]? = some b → b.toNat = B / 256 ^ i % 256
  | [], _, _, _, _, h => by simp at h
  | a :: l, B, 0, b, h, hi => by
    simp only [db_chk, Bool.and_eq_true, beq_iff_eq] at h
    simp only [List.getElem?_cons_zero, Option.some.injEq] at hi
    rw [← hi, h.1, Nat.pow_zero, Nat.div_one]
  | a :: l, B, i + 1, b, h, hi => by
    simp only [db_chk, Bool.and_eq_true] at h
    simp only [List.getElem?_cons_succ] at hi
    rw [db_get l (B / 256) i b h.2 hi, Nat.div_div_eq_div_mul, Nat.pow_succ, Nat.mul_comm (256 ^ i) 256]
theorem db_by {c : ByteArray} {B n : Nat} (hs : c.size = n) (hc : db_chk c.data.toList B = true) (i b : Nat) (h : (decide (i < n) && (B / 256 ^ i % 256 == b)) = true) : By c i b := by
  simp only [Bool.and_eq_true, decide_eq_true_eq, beq_iff_eq] at h
  have hi : i < c.size := by rw [hs]; exact h.1
  refine ⟨hi, ?_⟩
  rw [← h.2]
  refine db_get c.data.toList B i _ hc ?_
  show c.data.toList[i]? = some (c.data[i]'hi)
  rw [Array.getElem?_toList]
  exact Array.getElem?_eq_getElem hi
