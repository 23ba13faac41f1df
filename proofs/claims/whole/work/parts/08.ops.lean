/-! Each instruction is worth what its transformer says -/
theorem two_le {x : Nat} (h0 : ¬ neq x 0) (h1 : ¬ neq x 1) : 2 ≤ x := by unfold neq at h0 h1; omega
section SD
variable {G : GE} {y d pc len : Nat} {Q : TQ} {ls : List (Option Value)} {st : List Value} {c s n : Nat} {sh : TS} {I : TI} {L : TL} {P : TP}
theorem lift_if {a : Prop} {da : Decidable a} {C : TC} {K W : TK} {o : Option AI} (h : lift C d K W Q (if a then o else none) ls st c s n sh I L P) : a ∧ lift C d K W Q o ls st c s n sh I L P := by
  split at h
  · exact ⟨by assumption, h⟩
  · exact h.elim
/-- what a real instruction is worth -/
abbrev LI (G : GE) (y d : Nat) (Q : TQ) (pc : Nat) (i : Jvm.ClassFile.Instr) (len : Nat) (ls : List (Option Value)) (st : List Value) (c s n : Nat) (sh : TS) (I : TI) (L : TL) (P : TP) : Prop := lift (Cl G (d - 1)) d (WP G y d Q) (WP G y d Q) Q (trI (mCi y) (mRt y) (mML y) (mKi y) pc i len) ls st c s n sh I L P
theorem sd_iadd (hd : decode (mBy y) pc = .ok (.iadd, len)) (h : LI G y d Q pc (.iadd) len ls st c s n sh I L P) : WP G y d Q pc ls st c s n sh I L P := by
  obtain ⟨rfl, h⟩ := lift_if h
  have h : bin (fun x y => x + y) st (fun st => WP G y d Q (pc + 1) ls st c s n sh I L P) := h
  unfold bin at h
  split at h
  · intro p e S m args below meth cd R H locs cells slots lsr X hM hS hl hn hc hs
    exact lv_iadd X.1 X.2.1 hd (h p e S m args below meth cd R H locs cells slots lsr X hM hS hl hn hc hs)
  · exact h.elim
theorem sd_isub (hd : decode (mBy y) pc = .ok (.isub, len)) (h : LI G y d Q pc (.isub) len ls st c s n sh I L P) : WP G y d Q pc ls st c s n sh I L P := by
  obtain ⟨rfl, h⟩ := lift_if h
  have h : bin (fun x y => x - y) st (fun st => WP G y d Q (pc + 1) ls st c s n sh I L P) := h
  unfold bin at h
  split at h
  · intro p e S m args below meth cd R H locs cells slots lsr X hM hS hl hn hc hs
    exact lv_isub X.1 X.2.1 hd (h p e S m args below meth cd R H locs cells slots lsr X hM hS hl hn hc hs)
  · exact h.elim
theorem sd_imul (hd : decode (mBy y) pc = .ok (.imul, len)) (h : LI G y d Q pc (.imul) len ls st c s n sh I L P) : WP G y d Q pc ls st c s n sh I L P := by
  obtain ⟨rfl, h⟩ := lift_if h
  have h : bin (fun x y => x * y) st (fun st => WP G y d Q (pc + 1) ls st c s n sh I L P) := h
  unfold bin at h
  split at h
  · intro p e S m args below meth cd R H locs cells slots lsr X hM hS hl hn hc hs
    exact lv_imul X.1 X.2.1 hd (h p e S m args below meth cd R H locs cells slots lsr X hM hS hl hn hc hs)
  · exact h.elim
theorem sd_iand (hd : decode (mBy y) pc = .ok (.iand, len)) (h : LI G y d Q pc (.iand) len ls st c s n sh I L P) : WP G y d Q pc ls st c s n sh I L P := by
  obtain ⟨rfl, h⟩ := lift_if h
  have h : bin (fun x y => x &&& y) st (fun st => WP G y d Q (pc + 1) ls st c s n sh I L P) := h
  unfold bin at h
  split at h
  · intro p e S m args below meth cd R H locs cells slots lsr X hM hS hl hn hc hs
    exact lv_iand X.1 X.2.1 hd (h p e S m args below meth cd R H locs cells slots lsr X hM hS hl hn hc hs)
  · exact h.elim
theorem sd_ior (hd : decode (mBy y) pc = .ok (.ior, len)) (h : LI G y d Q pc (.ior) len ls st c s n sh I L P) : WP G y d Q pc ls st c s n sh I L P := by
  obtain ⟨rfl, h⟩ := lift_if h
  have h : bin (fun x y => x ||| y) st (fun st => WP G y d Q (pc + 1) ls st c s n sh I L P) := h
  unfold bin at h
  split at h
  · intro p e S m args below meth cd R H locs cells slots lsr X hM hS hl hn hc hs
    exact lv_ior X.1 X.2.1 hd (h p e S m args below meth cd R H locs cells slots lsr X hM hS hl hn hc hs)
  · exact h.elim
theorem sd_ixor (hd : decode (mBy y) pc = .ok (.ixor, len)) (h : LI G y d Q pc (.ixor) len ls st c s n sh I L P) : WP G y d Q pc ls st c s n sh I L P := by
  obtain ⟨rfl, h⟩ := lift_if h
  have h : bin (fun x y => x ^^^ y) st (fun st => WP G y d Q (pc + 1) ls st c s n sh I L P) := h
  unfold bin at h
  split at h
  · intro p e S m args below meth cd R H locs cells slots lsr X hM hS hl hn hc hs
    exact lv_ixor X.1 X.2.1 hd (h p e S m args below meth cd R H locs cells slots lsr X hM hS hl hn hc hs)
  · exact h.elim
theorem sd_ishl (hd : decode (mBy y) pc = .ok (.ishl, len)) (h : LI G y d Q pc (.ishl) len ls st c s n sh I L P) : WP G y d Q pc ls st c s n sh I L P := by
  obtain ⟨rfl, h⟩ := lift_if h
  have h : bin (fun x y => x <<< (y &&& 31)) st (fun st => WP G y d Q (pc + 1) ls st c s n sh I L P) := h
  unfold bin at h
  split at h
  · intro p e S m args below meth cd R H locs cells slots lsr X hM hS hl hn hc hs
    exact lv_ishl X.1 X.2.1 hd (h p e S m args below meth cd R H locs cells slots lsr X hM hS hl hn hc hs)
  · exact h.elim
theorem sd_ishr (hd : decode (mBy y) pc = .ok (.ishr, len)) (h : LI G y d Q pc (.ishr) len ls st c s n sh I L P) : WP G y d Q pc ls st c s n sh I L P := by
  obtain ⟨rfl, h⟩ := lift_if h
  have h : bin (fun x y => x >>> (y &&& 31)) st (fun st => WP G y d Q (pc + 1) ls st c s n sh I L P) := h
  unfold bin at h
  split at h
  · intro p e S m args below meth cd R H locs cells slots lsr X hM hS hl hn hc hs
    exact lv_ishr X.1 X.2.1 hd (h p e S m args below meth cd R H locs cells slots lsr X hM hS hl hn hc hs)
  · exact h.elim
theorem sd_iushr (hd : decode (mBy y) pc = .ok (.iushr, len)) (h : LI G y d Q pc (.iushr) len ls st c s n sh I L P) : WP G y d Q pc ls st c s n sh I L P := by
  obtain ⟨rfl, h⟩ := lift_if h
  have h : bin (fun x y => (x.toUInt32 >>> (y.toUInt32 &&& Int32.toUInt32 31)).toInt32) st (fun st => WP G y d Q (pc + 1) ls st c s n sh I L P) := h
  unfold bin at h
  split at h
  · intro p e S m args below meth cd R H locs cells slots lsr X hM hS hl hn hc hs
    exact lv_iushr X.1 X.2.1 hd rfl (h p e S m args below meth cd R H locs cells slots lsr X hM hS hl hn hc hs)
  · exact h.elim
theorem sd_ladd (hd : decode (mBy y) pc = .ok (.ladd, len)) (h : LI G y d Q pc (.ladd) len ls st c s n sh I L P) : WP G y d Q pc ls st c s n sh I L P := by
  obtain ⟨rfl, h⟩ := lift_if h
  have h : bil (fun x y => x + y) st (fun st => WP G y d Q (pc + 1) ls st c s n sh I L P) := h
  unfold bil at h
  split at h
  · intro p e S m args below meth cd R H locs cells slots lsr X hM hS hl hn hc hs
    exact lv_ladd X.1 X.2.1 hd (h p e S m args below meth cd R H locs cells slots lsr X hM hS hl hn hc hs)
  · exact h.elim
theorem sd_land (hd : decode (mBy y) pc = .ok (.land, len)) (h : LI G y d Q pc (.land) len ls st c s n sh I L P) : WP G y d Q pc ls st c s n sh I L P := by
  obtain ⟨rfl, h⟩ := lift_if h
  have h : bil (fun x y => x &&& y) st (fun st => WP G y d Q (pc + 1) ls st c s n sh I L P) := h
  unfold bil at h
  split at h
  · intro p e S m args below meth cd R H locs cells slots lsr X hM hS hl hn hc hs
    exact lv_land X.1 X.2.1 hd (h p e S m args below meth cd R H locs cells slots lsr X hM hS hl hn hc hs)
  · exact h.elim
theorem sd_lor (hd : decode (mBy y) pc = .ok (.lor, len)) (h : LI G y d Q pc (.lor) len ls st c s n sh I L P) : WP G y d Q pc ls st c s n sh I L P := by
  obtain ⟨rfl, h⟩ := lift_if h
  have h : bil (fun x y => x ||| y) st (fun st => WP G y d Q (pc + 1) ls st c s n sh I L P) := h
  unfold bil at h
  split at h
  · intro p e S m args below meth cd R H locs cells slots lsr X hM hS hl hn hc hs
    exact lv_lor X.1 X.2.1 hd (h p e S m args below meth cd R H locs cells slots lsr X hM hS hl hn hc hs)
  · exact h.elim
theorem sd_ineg (hd : decode (mBy y) pc = .ok (.ineg, len)) (h : LI G y d Q pc (.ineg) len ls st c s n sh I L P) : WP G y d Q pc ls st c s n sh I L P := by
  obtain ⟨rfl, h⟩ := lift_if h
  have h : una (fun x => .int (-x)) st (fun st => WP G y d Q (pc + 1) ls st c s n sh I L P) := h
  unfold una at h
  split at h
  · intro p e S m args below meth cd R H locs cells slots lsr X hM hS hl hn hc hs
    exact lv_ineg X.1 X.2.1 hd (h p e S m args below meth cd R H locs cells slots lsr X hM hS hl hn hc hs)
  · exact h.elim
theorem sd_i2l (hd : decode (mBy y) pc = .ok (.i2l, len)) (h : LI G y d Q pc (.i2l) len ls st c s n sh I L P) : WP G y d Q pc ls st c s n sh I L P := by
  obtain ⟨rfl, h⟩ := lift_if h
  have h : una (fun x => .long x.toInt64) st (fun st => WP G y d Q (pc + 1) ls st c s n sh I L P) := h
  unfold una at h
  split at h
  · intro p e S m args below meth cd R H locs cells slots lsr X hM hS hl hn hc hs
    exact lv_i2l X.1 X.2.1 hd rfl (h p e S m args below meth cd R H locs cells slots lsr X hM hS hl hn hc hs)
  · exact h.elim
theorem sd_i2b (hd : decode (mBy y) pc = .ok (.i2b, len)) (h : LI G y d Q pc (.i2b) len ls st c s n sh I L P) : WP G y d Q pc ls st c s n sh I L P := by
  obtain ⟨rfl, h⟩ := lift_if h
  have h : una (fun x => .int x.toInt8.toInt32) st (fun st => WP G y d Q (pc + 1) ls st c s n sh I L P) := h
  unfold una at h
  split at h
  · intro p e S m args below meth cd R H locs cells slots lsr X hM hS hl hn hc hs
    exact lv_i2b X.1 X.2.1 hd rfl (h p e S m args below meth cd R H locs cells slots lsr X hM hS hl hn hc hs)
  · exact h.elim
theorem sd_i2s (hd : decode (mBy y) pc = .ok (.i2s, len)) (h : LI G y d Q pc (.i2s) len ls st c s n sh I L P) : WP G y d Q pc ls st c s n sh I L P := by
  obtain ⟨rfl, h⟩ := lift_if h
  have h : una (fun x => .int x.toInt16.toInt32) st (fun st => WP G y d Q (pc + 1) ls st c s n sh I L P) := h
  unfold una at h
  split at h
  · intro p e S m args below meth cd R H locs cells slots lsr X hM hS hl hn hc hs
    exact lv_i2s X.1 X.2.1 hd rfl (h p e S m args below meth cd R H locs cells slots lsr X hM hS hl hn hc hs)
  · exact h.elim
theorem sd_i2c (hd : decode (mBy y) pc = .ok (.i2c, len)) (h : LI G y d Q pc (.i2c) len ls st c s n sh I L P) : WP G y d Q pc ls st c s n sh I L P := by
  obtain ⟨rfl, h⟩ := lift_if h
  have h : una (fun x => .int (x.toUInt32 % 65536).toInt32) st (fun st => WP G y d Q (pc + 1) ls st c s n sh I L P) := h
  unfold una at h
  split at h
  · intro p e S m args below meth cd R H locs cells slots lsr X hM hS hl hn hc hs
    exact lv_i2c X.1 X.2.1 hd rfl (h p e S m args below meth cd R H locs cells slots lsr X hM hS hl hn hc hs)
  · exact h.elim
theorem sd_idiv (hd : decode (mBy y) pc = .ok (.idiv, len)) (h : LI G y d Q pc (.idiv) len ls st c s n sh I L P) : WP G y d Q pc ls st c s n sh I L P := by
  obtain ⟨rfl, h⟩ := lift_if h
  have h : (match (generalizing := false) st with | .int z :: .int x :: r => ¬ z = 0 ∧ WP G y d Q (pc + 1) ls (.int (x / z) :: r) c s n sh I L P | _ => False) := h
  split at h
  · intro p e S m args below meth cd R H locs cells slots lsr X hM hS hl hn hc hs
    exact lv_idiv X.1 X.2.1 hd h.1 (h.2 p e S m args below meth cd R H locs cells slots lsr X hM hS hl hn hc hs)
  · exact h.elim
theorem sd_irem (hd : decode (mBy y) pc = .ok (.irem, len)) (h : LI G y d Q pc (.irem) len ls st c s n sh I L P) : WP G y d Q pc ls st c s n sh I L P := by
  obtain ⟨rfl, h⟩ := lift_if h
  have h : (match (generalizing := false) st with | .int z :: .int x :: r => ¬ z = 0 ∧ WP G y d Q (pc + 1) ls (.int (x - x / z * z) :: r) c s n sh I L P | _ => False) := h
  split at h
  · intro p e S m args below meth cd R H locs cells slots lsr X hM hS hl hn hc hs
    exact lv_irem X.1 X.2.1 hd h.1 (h.2 p e S m args below meth cd R H locs cells slots lsr X hM hS hl hn hc hs)
  · exact h.elim
theorem sd_ldiv (hd : decode (mBy y) pc = .ok (.ldiv, len)) (h : LI G y d Q pc (.ldiv) len ls st c s n sh I L P) : WP G y d Q pc ls st c s n sh I L P := by
  obtain ⟨rfl, h⟩ := lift_if h
  have h : (match (generalizing := false) st with | .long z :: .long x :: r => ¬ z = 0 ∧ WP G y d Q (pc + 1) ls (.long (x / z) :: r) c s n sh I L P | _ => False) := h
  split at h
  · intro p e S m args below meth cd R H locs cells slots lsr X hM hS hl hn hc hs
    exact lv_ldiv X.1 X.2.1 hd h.1 (h.2 p e S m args below meth cd R H locs cells slots lsr X hM hS hl hn hc hs)
  · exact h.elim
theorem sd_lrem (hd : decode (mBy y) pc = .ok (.lrem, len)) (h : LI G y d Q pc (.lrem) len ls st c s n sh I L P) : WP G y d Q pc ls st c s n sh I L P := by
  obtain ⟨rfl, h⟩ := lift_if h
  have h : (match (generalizing := false) st with | .long z :: .long x :: r => ¬ z = 0 ∧ WP G y d Q (pc + 1) ls (.long (x - x / z * z) :: r) c s n sh I L P | _ => False) := h
  split at h
  · intro p e S m args below meth cd R H locs cells slots lsr X hM hS hl hn hc hs
    exact lv_lrem X.1 X.2.1 hd h.1 (h.2 p e S m args below meth cd R H locs cells slots lsr X hM hS hl hn hc hs)
  · exact h.elim
theorem sd_lshl (hd : decode (mBy y) pc = .ok (.lshl, len)) (h : LI G y d Q pc (.lshl) len ls st c s n sh I L P) : WP G y d Q pc ls st c s n sh I L P := by
  obtain ⟨rfl, h⟩ := lift_if h
  have h : (match (generalizing := false) st with | .int z :: .long x :: r => WP G y d Q (pc + 1) ls (.long (x <<< (z.toInt64 &&& 63)) :: r) c s n sh I L P | _ => False) := h
  split at h
  · intro p e S m args below meth cd R H locs cells slots lsr X hM hS hl hn hc hs
    exact lv_lshl X.1 X.2.1 hd rfl (h p e S m args below meth cd R H locs cells slots lsr X hM hS hl hn hc hs)
  · exact h.elim
theorem sd_lcmp (hd : decode (mBy y) pc = .ok (.lcmp, len)) (h : LI G y d Q pc (.lcmp) len ls st c s n sh I L P) : WP G y d Q pc ls st c s n sh I L P := by
  obtain ⟨rfl, h⟩ := lift_if h
  have h : (match (generalizing := false) st with | .long z :: .long x :: r => WP G y d Q (pc + 1) ls (.int (lg_cmp x z) :: r) c s n sh I L P | _ => False) := h
  split at h
  · intro p e S m args below meth cd R H locs cells slots lsr X hM hS hl hn hc hs
    exact W.lcmp X.1 X.2.1 hd (h p e S m args below meth cd R H locs cells slots lsr X hM hS hl hn hc hs)
  · exact h.elim
theorem sd_l2i (hd : decode (mBy y) pc = .ok (.l2i, len)) (h : LI G y d Q pc (.l2i) len ls st c s n sh I L P) : WP G y d Q pc ls st c s n sh I L P := by
  obtain ⟨rfl, h⟩ := lift_if h
  have h : (match (generalizing := false) st with | .long x :: r => WP G y d Q (pc + 1) ls (.int x.toInt32 :: r) c s n sh I L P | _ => False) := h
  split at h
  · intro p e S m args below meth cd R H locs cells slots lsr X hM hS hl hn hc hs
    exact lv_l2i X.1 X.2.1 hd rfl (h p e S m args below meth cd R H locs cells slots lsr X hM hS hl hn hc hs)
  · exact h.elim
theorem sd_dup (hd : decode (mBy y) pc = .ok (.dup, len)) (h : LI G y d Q pc (.dup) len ls st c s n sh I L P) : WP G y d Q pc ls st c s n sh I L P := by
  obtain ⟨rfl, h⟩ := lift_if h
  have h : (match (generalizing := false) st with | .int x :: r => WP G y d Q (pc + 1) ls (.int x :: .int x :: r) c s n sh I L P | .ref x :: r => WP G y d Q (pc + 1) ls (.ref x :: .ref x :: r) c s n sh I L P | _ => False) := h
  split at h
  · intro p e S m args below meth cd R H locs cells slots lsr X hM hS hl hn hc hs
    exact lv_dup X.1 X.2.1 hd rfl (h p e S m args below meth cd R H locs cells slots lsr X hM hS hl hn hc hs)
  · intro p e S m args below meth cd R H locs cells slots lsr X hM hS hl hn hc hs
    exact lv_dup X.1 X.2.1 hd (tr_cat X.gf _) (h p e S m args below meth cd R H locs cells slots lsr X hM hS hl hn hc hs)
  · exact h.elim
theorem sd_dup2 (hd : decode (mBy y) pc = .ok (.dup2, len)) (h : LI G y d Q pc (.dup2) len ls st c s n sh I L P) : WP G y d Q pc ls st c s n sh I L P := by
  obtain ⟨rfl, h⟩ := lift_if h
  have h : (match (generalizing := false) st with | .int x :: .ref z :: r => WP G y d Q (pc + 1) ls (.int x :: .ref z :: .int x :: .ref z :: r) c s n sh I L P | _ => False) := h
  split at h
  · intro p e S m args below meth cd R H locs cells slots lsr X hM hS hl hn hc hs
    exact lv_dup2_11 X.1 X.2.1 hd rfl (tr_cat X.gf _) (h p e S m args below meth cd R H locs cells slots lsr X hM hS hl hn hc hs)
  · exact h.elim
theorem sd_pop (hd : decode (mBy y) pc = .ok (.pop, len)) (h : LI G y d Q pc (.pop) len ls st c s n sh I L P) : WP G y d Q pc ls st c s n sh I L P := by
  obtain ⟨rfl, h⟩ := lift_if h
  have h : (match (generalizing := false) st with | .int _ :: r => WP G y d Q (pc + 1) ls (r) c s n sh I L P | .ref _ :: r => WP G y d Q (pc + 1) ls (r) c s n sh I L P | _ => False) := h
  split at h
  · intro p e S m args below meth cd R H locs cells slots lsr X hM hS hl hn hc hs
    exact lv_pop X.1 X.2.1 hd rfl (h p e S m args below meth cd R H locs cells slots lsr X hM hS hl hn hc hs)
  · intro p e S m args below meth cd R H locs cells slots lsr X hM hS hl hn hc hs
    exact lv_pop X.1 X.2.1 hd (tr_cat X.gf _) (h p e S m args below meth cd R H locs cells slots lsr X hM hS hl hn hc hs)
  · exact h.elim
theorem sd_iconst {v : Int} (hd : decode (mBy y) pc = .ok (.iconst v, len)) (h : LI G y d Q pc (.iconst v) len ls st c s n sh I L P) : WP G y d Q pc ls st c s n sh I L P := by
  obtain ⟨rfl, h⟩ := lift_if h
  have h : WP G y d Q (pc + 1) ls (.int (Int32.ofInt v) :: st) c s n sh I L P := h
  intro p e S m args below meth cd R H locs cells slots lsr X hM hS hl hn hc hs
  exact lv_iconst X.1 X.2.1 hd rfl (h p e S m args below meth cd R H locs cells slots lsr X hM hS hl hn hc hs)
theorem sd_bipush {v : Int} (hd : decode (mBy y) pc = .ok (.bipush v, len)) (h : LI G y d Q pc (.bipush v) len ls st c s n sh I L P) : WP G y d Q pc ls st c s n sh I L P := by
  obtain ⟨rfl, h⟩ := lift_if h
  have h : WP G y d Q (pc + 2) ls (.int (Int8.ofInt v).toInt32 :: st) c s n sh I L P := h
  intro p e S m args below meth cd R H locs cells slots lsr X hM hS hl hn hc hs
  exact lv_bipush X.1 X.2.1 hd rfl (h p e S m args below meth cd R H locs cells slots lsr X hM hS hl hn hc hs)
theorem sd_sipush {v : Int} (hd : decode (mBy y) pc = .ok (.sipush v, len)) (h : LI G y d Q pc (.sipush v) len ls st c s n sh I L P) : WP G y d Q pc ls st c s n sh I L P := by
  obtain ⟨rfl, h⟩ := lift_if h
  have h : WP G y d Q (pc + 3) ls (.int (Int16.ofInt v).toInt32 :: st) c s n sh I L P := h
  intro p e S m args below meth cd R H locs cells slots lsr X hM hS hl hn hc hs
  exact lv_sipush X.1 X.2.1 hd rfl (h p e S m args below meth cd R H locs cells slots lsr X hM hS hl hn hc hs)
theorem sd_lconst {v : Fin 2} (hd : decode (mBy y) pc = .ok (.lconst v, len)) (h : LI G y d Q pc (.lconst v) len ls st c s n sh I L P) : WP G y d Q pc ls st c s n sh I L P := by
  obtain ⟨rfl, h⟩ := lift_if h
  have h : WP G y d Q (pc + 1) ls (.long (Int64.ofNat v.val) :: st) c s n sh I L P := h
  intro p e S m args below meth cd R H locs cells slots lsr X hM hS hl hn hc hs
  exact lv_lconst X.1 X.2.1 hd rfl (h p e S m args below meth cd R H locs cells slots lsr X hM hS hl hn hc hs)
theorem sd_aconst_null (hd : decode (mBy y) pc = .ok (.aconst_null, len)) (h : LI G y d Q pc (.aconst_null) len ls st c s n sh I L P) : WP G y d Q pc ls st c s n sh I L P := by
  obtain ⟨rfl, h⟩ := lift_if h
  have h : WP G y d Q (pc + 1) ls (.ref 0 :: st) c s n sh I L P := h
  intro p e S m args below meth cd R H locs cells slots lsr X hM hS hl hn hc hs
  exact lv_null X.1 X.2.1 hd (h p e S m args below meth cd R H locs cells slots lsr X hM hS hl hn hc hs)
theorem sd_iload_n {v : Fin 4} (hd : decode (mBy y) pc = .ok (.iload_n v, len)) (h : LI G y d Q pc (.iload_n v) len ls st c s n sh I L P) : WP G y d Q pc ls st c s n sh I L P := by
  obtain ⟨rfl, h⟩ := lift_if h
  have h : (match (generalizing := false) gl ls v.val with | some (.int x) => WP G y d Q (pc + 1) ls (.int x :: st) c s n sh I L P | _ => False) := h
  split at h
  · rename_i hg
    intro p e S m args below meth cd R H locs cells slots lsr X hM hS hl hn hc hs
    exact lv_iload_n X.1 X.2.1 hd rfl (hl.2.2 _ _ hg) (h p e S m args below meth cd R H locs cells slots lsr X hM hS hl hn hc hs)
  · exact h.elim
theorem sd_iload {v : Nat} (hd : decode (mBy y) pc = .ok (.iload v, len)) (h : LI G y d Q pc (.iload v) len ls st c s n sh I L P) : WP G y d Q pc ls st c s n sh I L P := by
  obtain ⟨rfl, h⟩ := lift_if h
  have h : (match (generalizing := false) gl ls v with | some (.int x) => WP G y d Q (pc + 2) ls (.int x :: st) c s n sh I L P | _ => False) := h
  split at h
  · rename_i hg
    intro p e S m args below meth cd R H locs cells slots lsr X hM hS hl hn hc hs
    exact lv_iload X.1 X.2.1 hd (hl.2.2 _ _ hg) (h p e S m args below meth cd R H locs cells slots lsr X hM hS hl hn hc hs)
  · exact h.elim
theorem sd_lload_n {v : Fin 4} (hd : decode (mBy y) pc = .ok (.lload_n v, len)) (h : LI G y d Q pc (.lload_n v) len ls st c s n sh I L P) : WP G y d Q pc ls st c s n sh I L P := by
  obtain ⟨rfl, h⟩ := lift_if h
  have h : (match (generalizing := false) gl ls v.val with | some (.long x) => WP G y d Q (pc + 1) ls (.long x :: st) c s n sh I L P | _ => False) := h
  split at h
  · rename_i hg
    intro p e S m args below meth cd R H locs cells slots lsr X hM hS hl hn hc hs
    exact lv_lload_n X.1 X.2.1 hd rfl (hl.2.2 _ _ hg) (h p e S m args below meth cd R H locs cells slots lsr X hM hS hl hn hc hs)
  · exact h.elim
theorem sd_lload {v : Nat} (hd : decode (mBy y) pc = .ok (.lload v, len)) (h : LI G y d Q pc (.lload v) len ls st c s n sh I L P) : WP G y d Q pc ls st c s n sh I L P := by
  obtain ⟨rfl, h⟩ := lift_if h
  have h : (match (generalizing := false) gl ls v with | some (.long x) => WP G y d Q (pc + 2) ls (.long x :: st) c s n sh I L P | _ => False) := h
  split at h
  · rename_i hg
    intro p e S m args below meth cd R H locs cells slots lsr X hM hS hl hn hc hs
    exact lv_lload X.1 X.2.1 hd (hl.2.2 _ _ hg) (h p e S m args below meth cd R H locs cells slots lsr X hM hS hl hn hc hs)
  · exact h.elim
theorem sd_aload_n {v : Fin 4} (hd : decode (mBy y) pc = .ok (.aload_n v, len)) (h : LI G y d Q pc (.aload_n v) len ls st c s n sh I L P) : WP G y d Q pc ls st c s n sh I L P := by
  obtain ⟨rfl, h⟩ := lift_if h
  have h : (match (generalizing := false) gl ls v.val with | some (.ref x) => WP G y d Q (pc + 1) ls (.ref x :: st) c s n sh I L P | _ => False) := h
  split at h
  · rename_i x hg
    intro p e S m args below meth cd R H locs cells slots lsr X hM hS hl hn hc hs
    have h := (h p e S m args below meth cd R H locs cells slots lsr X hM hS hl hn hc hs)
    have hv := hl.2.2 _ _ hg
    have h : W p (Gl G) e R S m args below meth cd H locs cells slots (MQ below (QC G Q) args S (mMc y) (mMs y) (AA G)) (F0 m (pc + 1) lsr (tr G (.ref x) :: st.map (tr G))) := h
    rcases tr_ref' X.gf x with q | ⟨t, q⟩
    · rw [q] at h hv
      exact lv_aload_nN X.1 X.2.1 hd rfl hv h
    · rw [q] at h hv
      exact lv_aload_n X.1 X.2.1 hd rfl hv h
  · exact h.elim
theorem sd_aload {v : Nat} (hd : decode (mBy y) pc = .ok (.aload v, len)) (h : LI G y d Q pc (.aload v) len ls st c s n sh I L P) : WP G y d Q pc ls st c s n sh I L P := by
  obtain ⟨rfl, h⟩ := lift_if h
  have h : (match (generalizing := false) gl ls v with | some (.ref x) => WP G y d Q (pc + 2) ls (.ref x :: st) c s n sh I L P | _ => False) := h
  split at h
  · rename_i x hg
    intro p e S m args below meth cd R H locs cells slots lsr X hM hS hl hn hc hs
    have h := (h p e S m args below meth cd R H locs cells slots lsr X hM hS hl hn hc hs)
    have hv := hl.2.2 _ _ hg
    have h : W p (Gl G) e R S m args below meth cd H locs cells slots (MQ below (QC G Q) args S (mMc y) (mMs y) (AA G)) (F0 m (pc + 2) lsr (tr G (.ref x) :: st.map (tr G))) := h
    rcases tr_ref' X.gf x with q | ⟨t, q⟩
    · rw [q] at h hv
      exact lv_aloadN X.1 X.2.1 hd hv h
    · rw [q] at h hv
      exact lv_aload X.1 X.2.1 hd hv h
  · exact h.elim
theorem sd_istore_n {v : Fin 4} (hd : decode (mBy y) pc = .ok (.istore_n v, len)) (h : LI G y d Q pc (.istore_n v) len ls st c s n sh I L P) : WP G y d Q pc ls st c s n sh I L P := by
  obtain ⟨⟨rfl, hlt⟩, h⟩ := lift_if h
  have h : (match (generalizing := false) st with | .int x :: r => WP G y d Q (pc + 1) (s1 ls v.val (.int x)) (r) c s n sh I L P | _ => False) := h
  split at h
  · intro p e S m args below meth cd R H locs cells slots lsr X hM hS hl hn hc hs
    exact lv_istore_n X.1 X.2.1 hd rfl hl.has (by rw [hn]; exact hlt) rfl (fun ls' hl' => h p e S m args below meth cd R H locs cells slots ls' X hM hS (LR.st1 X.gf hl') (by rw [s1_len]; exact hn) hc hs)
  · exact h.elim
theorem sd_istore {v : Nat} (hd : decode (mBy y) pc = .ok (.istore v, len)) (h : LI G y d Q pc (.istore v) len ls st c s n sh I L P) : WP G y d Q pc ls st c s n sh I L P := by
  obtain ⟨⟨rfl, hlt⟩, h⟩ := lift_if h
  have h : (match (generalizing := false) st with | .int x :: r => WP G y d Q (pc + 2) (s1 ls v (.int x)) (r) c s n sh I L P | _ => False) := h
  split at h
  · intro p e S m args below meth cd R H locs cells slots lsr X hM hS hl hn hc hs
    exact lv_istore X.1 X.2.1 hd hl.has (by rw [hn]; exact hlt) rfl (fun ls' hl' => h p e S m args below meth cd R H locs cells slots ls' X hM hS (LR.st1 X.gf hl') (by rw [s1_len]; exact hn) hc hs)
  · exact h.elim
theorem sd_lstore_n {v : Fin 4} (hd : decode (mBy y) pc = .ok (.lstore_n v, len)) (h : LI G y d Q pc (.lstore_n v) len ls st c s n sh I L P) : WP G y d Q pc ls st c s n sh I L P := by
  obtain ⟨⟨rfl, hlt⟩, h⟩ := lift_if h
  have h : (match (generalizing := false) st with | .long x :: r => WP G y d Q (pc + 1) (s2 ls v.val (.long x)) (r) c s n sh I L P | _ => False) := h
  split at h
  · intro p e S m args below meth cd R H locs cells slots lsr X hM hS hl hn hc hs
    exact lv_lstore_n X.1 X.2.1 hd rfl hl.has (by rw [hn]; exact hlt) rfl (fun ls' hl' => h p e S m args below meth cd R H locs cells slots ls' X hM hS (LR.st2 X.gf hl') (by rw [s2_len]; exact hn) hc hs)
  · exact h.elim
theorem sd_lstore {v : Nat} (hd : decode (mBy y) pc = .ok (.lstore v, len)) (h : LI G y d Q pc (.lstore v) len ls st c s n sh I L P) : WP G y d Q pc ls st c s n sh I L P := by
  obtain ⟨⟨rfl, hlt⟩, h⟩ := lift_if h
  have h : (match (generalizing := false) st with | .long x :: r => WP G y d Q (pc + 2) (s2 ls v (.long x)) (r) c s n sh I L P | _ => False) := h
  split at h
  · intro p e S m args below meth cd R H locs cells slots lsr X hM hS hl hn hc hs
    exact lv_lstore X.1 X.2.1 hd hl.has (by rw [hn]; exact hlt) rfl (fun ls' hl' => h p e S m args below meth cd R H locs cells slots ls' X hM hS (LR.st2 X.gf hl') (by rw [s2_len]; exact hn) hc hs)
  · exact h.elim
theorem sd_astore_n {v : Fin 4} (hd : decode (mBy y) pc = .ok (.astore_n v, len)) (h : LI G y d Q pc (.astore_n v) len ls st c s n sh I L P) : WP G y d Q pc ls st c s n sh I L P := by
  obtain ⟨⟨rfl, hlt⟩, h⟩ := lift_if h
  have h : (match (generalizing := false) st with | .ref x :: r => WP G y d Q (pc + 1) (s1 ls v.val (.ref x)) (r) c s n sh I L P | _ => False) := h
  split at h
  · rename_i x r _ _
    intro p e S m args below meth cd R H locs cells slots lsr X hM hS hl hn hc hs
    have k : ∀ ls' : Array Slot, lv_has ls' ls.length ((v.val, tr G (.ref x)) :: (pl G ls).filter (fun q => !(q.1 == v.val) && !(q.1 + 1 == v.val && q.2.category == 2))) → W p (Gl G) e R S m args below meth cd H locs cells slots (MQ below (QC G Q) args S (mMc y) (mMs y) (AA G)) (F0 m (pc + 1) ls' (r.map (tr G))) :=
      fun ls' hl' => h p e S m args below meth cd R H locs cells slots ls' X hM hS (LR.st1 X.gf hl') (by rw [s1_len]; exact hn) hc hs
    show W p (Gl G) e R S m args below meth cd H locs cells slots _ (F0 m pc lsr (tr G (.ref x) :: r.map (tr G)))
    rcases tr_ref' X.gf x with q | ⟨t, q⟩
    · rw [q] at k ⊢
      exact lv_astore_nN X.1 X.2.1 hd rfl hl.has (by rw [hn]; exact hlt) rfl k
    · rw [q] at k ⊢
      exact lv_astore_n X.1 X.2.1 hd rfl hl.has (by rw [hn]; exact hlt) rfl k
  · exact h.elim
theorem sd_astore {v : Nat} (hd : decode (mBy y) pc = .ok (.astore v, len)) (h : LI G y d Q pc (.astore v) len ls st c s n sh I L P) : WP G y d Q pc ls st c s n sh I L P := by
  obtain ⟨⟨rfl, hlt⟩, h⟩ := lift_if h
  have h : (match (generalizing := false) st with | .ref x :: r => WP G y d Q (pc + 2) (s1 ls v (.ref x)) (r) c s n sh I L P | _ => False) := h
  split at h
  · rename_i x r _ _
    intro p e S m args below meth cd R H locs cells slots lsr X hM hS hl hn hc hs
    have k : ∀ ls' : Array Slot, lv_has ls' ls.length ((v, tr G (.ref x)) :: (pl G ls).filter (fun q => !(q.1 == v) && !(q.1 + 1 == v && q.2.category == 2))) → W p (Gl G) e R S m args below meth cd H locs cells slots (MQ below (QC G Q) args S (mMc y) (mMs y) (AA G)) (F0 m (pc + 2) ls' (r.map (tr G))) :=
      fun ls' hl' => h p e S m args below meth cd R H locs cells slots ls' X hM hS (LR.st1 X.gf hl') (by rw [s1_len]; exact hn) hc hs
    show W p (Gl G) e R S m args below meth cd H locs cells slots _ (F0 m pc lsr (tr G (.ref x) :: r.map (tr G)))
    rcases tr_ref' X.gf x with q | ⟨t, q⟩
    · rw [q] at k ⊢
      exact lv_astoreN X.1 X.2.1 hd hl.has (by rw [hn]; exact hlt) rfl k
    · rw [q] at k ⊢
      exact lv_astore X.1 X.2.1 hd hl.has (by rw [hn]; exact hlt) rfl k
  · exact h.elim
theorem sd_iinc {v : Nat} {k : Int} (hd : decode (mBy y) pc = .ok (.iinc v k, len)) (h : LI G y d Q pc (.iinc v k) len ls st c s n sh I L P) : WP G y d Q pc ls st c s n sh I L P := by
  obtain ⟨⟨rfl, hlt⟩, h⟩ := lift_if h
  have h : (match (generalizing := false) gl ls v, [(Int32.ofInt k, 0)] with | some (.int x), [(k, _)] => WP G y d Q (pc + 3) (s1 ls v (.int (x + k))) st c s n sh I L P | _, _ => False) := h
  split at h
  · rename_i x k' z hg he
    simp only [List.cons.injEq, Prod.mk.injEq, and_true] at he
    obtain ⟨rfl, -⟩ := he
    intro p e S m args below meth cd R H locs cells slots lsr X hM hS hl hn hc hs
    obtain ⟨j, hj⟩ := List.getElem?_of_mem (pl_mem.mpr ⟨_, hg, rfl⟩ : (v, tr G (.int x)) ∈ pl G ls)
    exact lv_iinc X.1 X.2.1 hd hl.has hj rfl (by rw [hn]; exact hlt) rfl (fun ls' hl' => h p e S m args below meth cd R H locs cells slots ls' X hM hS (LR.st1 X.gf hl') (by rw [s1_len]; exact hn) hc hs)
  · exact h.elim
theorem sd_goto {off : Int} (hd : decode (mBy y) pc = .ok (.goto off, len)) (h : LI G y d Q pc (.goto off) len ls st c s n sh I L P) : WP G y d Q pc ls st c s n sh I L P := by
  obtain ⟨⟨rfl, ht⟩, h⟩ := lift_if h
  have h : WP G y d Q (tgt pc off) ls st c s n sh I L P := h
  intro p e S m args below meth cd R H locs cells slots lsr X hM hS hl hn hc hs
  exact lv_goto X.1 X.2.1 hd (Int.toNat_of_nonneg ht).symm (h p e S m args below meth cd R H locs cells slots lsr X hM hS hl hn hc hs)
theorem sd_ifCond {o : Jvm.ClassFile.Cond} {off : Int} (hd : decode (mBy y) pc = .ok (.ifCond o off, len)) (h : LI G y d Q pc (.ifCond o off) len ls st c s n sh I L P) : WP G y d Q pc ls st c s n sh I L P := by
  obtain ⟨⟨rfl, ht⟩, h⟩ := lift_if h
  have h : (match (generalizing := false) st with | .int x :: r => cnd o x 0 (WP G y d Q (tgt pc off) ls r c s n sh I L P) (WP G y d Q (pc + 3) ls r c s n sh I L P) | _ => False) := h
  split at h
  · intro p e S m args below meth cd R H locs cells slots lsr X hM hS hl hn hc hs
    cases o
    · exact lv_if_eq X.1 X.2.1 hd (Int.toNat_of_nonneg ht).symm (fun q => h.1 q p e S m args below meth cd R H locs cells slots lsr X hM hS hl hn hc hs) (fun q => h.2 q p e S m args below meth cd R H locs cells slots lsr X hM hS hl hn hc hs)
    · exact lv_if_ne X.1 X.2.1 hd (Int.toNat_of_nonneg ht).symm (fun q => h.2 q p e S m args below meth cd R H locs cells slots lsr X hM hS hl hn hc hs) (fun q => h.1 q p e S m args below meth cd R H locs cells slots lsr X hM hS hl hn hc hs)
    · exact lv_if_lt X.1 X.2.1 hd (Int.toNat_of_nonneg ht).symm (fun q => h.1 q p e S m args below meth cd R H locs cells slots lsr X hM hS hl hn hc hs) (fun q => h.2 q p e S m args below meth cd R H locs cells slots lsr X hM hS hl hn hc hs)
    · exact lv_if_ge X.1 X.2.1 hd (Int.toNat_of_nonneg ht).symm (fun q => h.1 q p e S m args below meth cd R H locs cells slots lsr X hM hS hl hn hc hs) (fun q => h.2 q p e S m args below meth cd R H locs cells slots lsr X hM hS hl hn hc hs)
    · exact lv_if_gt X.1 X.2.1 hd (Int.toNat_of_nonneg ht).symm (fun q => h.1 q p e S m args below meth cd R H locs cells slots lsr X hM hS hl hn hc hs) (fun q => h.2 q p e S m args below meth cd R H locs cells slots lsr X hM hS hl hn hc hs)
    · exact lv_if_le X.1 X.2.1 hd (Int.toNat_of_nonneg ht).symm (fun q => h.1 q p e S m args below meth cd R H locs cells slots lsr X hM hS hl hn hc hs) (fun q => h.2 q p e S m args below meth cd R H locs cells slots lsr X hM hS hl hn hc hs)
  · exact h.elim
theorem sd_if_icmp {o : Jvm.ClassFile.Cond} {off : Int} (hd : decode (mBy y) pc = .ok (.if_icmp o off, len)) (h : LI G y d Q pc (.if_icmp o off) len ls st c s n sh I L P) : WP G y d Q pc ls st c s n sh I L P := by
  obtain ⟨⟨rfl, ht⟩, h⟩ := lift_if h
  have h : (match (generalizing := false) st with | .int z :: .int x :: r => cnd o x z (WP G y d Q (tgt pc off) ls r c s n sh I L P) (WP G y d Q (pc + 3) ls r c s n sh I L P) | _ => False) := h
  split at h
  · intro p e S m args below meth cd R H locs cells slots lsr X hM hS hl hn hc hs
    cases o
    · exact lv_icmp_eq X.1 X.2.1 hd (Int.toNat_of_nonneg ht).symm (fun q => h.1 q p e S m args below meth cd R H locs cells slots lsr X hM hS hl hn hc hs) (fun q => h.2 q p e S m args below meth cd R H locs cells slots lsr X hM hS hl hn hc hs)
    · exact lv_icmp_ne X.1 X.2.1 hd (Int.toNat_of_nonneg ht).symm (fun q => h.2 q p e S m args below meth cd R H locs cells slots lsr X hM hS hl hn hc hs) (fun q => h.1 q p e S m args below meth cd R H locs cells slots lsr X hM hS hl hn hc hs)
    · exact lv_icmp_lt X.1 X.2.1 hd (Int.toNat_of_nonneg ht).symm (fun q => h.1 q p e S m args below meth cd R H locs cells slots lsr X hM hS hl hn hc hs) (fun q => h.2 q p e S m args below meth cd R H locs cells slots lsr X hM hS hl hn hc hs)
    · exact lv_icmp_ge X.1 X.2.1 hd (Int.toNat_of_nonneg ht).symm (fun q => h.1 q p e S m args below meth cd R H locs cells slots lsr X hM hS hl hn hc hs) (fun q => h.2 q p e S m args below meth cd R H locs cells slots lsr X hM hS hl hn hc hs)
    · exact lv_icmp_gt X.1 X.2.1 hd (Int.toNat_of_nonneg ht).symm (fun q => h.1 q p e S m args below meth cd R H locs cells slots lsr X hM hS hl hn hc hs) (fun q => h.2 q p e S m args below meth cd R H locs cells slots lsr X hM hS hl hn hc hs)
    · exact lv_icmp_le X.1 X.2.1 hd (Int.toNat_of_nonneg ht).symm (fun q => h.1 q p e S m args below meth cd R H locs cells slots lsr X hM hS hl hn hc hs) (fun q => h.2 q p e S m args below meth cd R H locs cells slots lsr X hM hS hl hn hc hs)
  · exact h.elim
theorem sd_ifnull {off : Int} (hd : decode (mBy y) pc = .ok (.ifnull off, len)) (h : LI G y d Q pc (.ifnull off) len ls st c s n sh I L P) : WP G y d Q pc ls st c s n sh I L P := by
  obtain ⟨⟨rfl, ht⟩, h⟩ := lift_if h
  have h : (match (generalizing := false) st with | .ref x :: r => ¬ neq x 1 ∧ (neq x 0 → WP G y d Q (tgt pc off) ls r c s n sh I L P) ∧ (¬ neq x 0 → WP G y d Q (pc + 3) ls r c s n sh I L P) | _ => False) := h
  split at h
  · rename_i x r _ _
    obtain ⟨h1, h2, h3⟩ := h
    intro p e S m args below meth cd R H locs cells slots lsr X hM hS hl hn hc hs
    by_cases hx : neq x 0
    · have hx : x = 0 := hx
      subst hx
      exact lv_ifnullN X.1 X.2.1 hd (Int.toNat_of_nonneg ht).symm (h2 rfl p e S m args below meth cd R H locs cells slots lsr X hM hS hl hn hc hs)
    · show W p (Gl G) e R S m args below meth cd H locs cells slots _ (F0 m pc lsr (tr G (.ref x) :: r.map (tr G)))
      rw [tr_ref (two_le hx h1)]
      exact lv_ifnull X.1 X.2.1 hd (h3 hx p e S m args below meth cd R H locs cells slots lsr X hM hS hl hn hc hs)
  · exact h.elim
theorem sd_ifnonnull {off : Int} (hd : decode (mBy y) pc = .ok (.ifnonnull off, len)) (h : LI G y d Q pc (.ifnonnull off) len ls st c s n sh I L P) : WP G y d Q pc ls st c s n sh I L P := by
  obtain ⟨⟨rfl, ht⟩, h⟩ := lift_if h
  have h : (match (generalizing := false) st with | .ref x :: r => ¬ neq x 1 ∧ (neq x 0 → WP G y d Q (pc + 3) ls r c s n sh I L P) ∧ (¬ neq x 0 → WP G y d Q (tgt pc off) ls r c s n sh I L P) | _ => False) := h
  split at h
  · rename_i x r _ _
    obtain ⟨h1, h2, h3⟩ := h
    intro p e S m args below meth cd R H locs cells slots lsr X hM hS hl hn hc hs
    by_cases hx : neq x 0
    · have hx : x = 0 := hx
      subst hx
      exact lv_ifnonnullN X.1 X.2.1 hd (h2 rfl p e S m args below meth cd R H locs cells slots lsr X hM hS hl hn hc hs)
    · show W p (Gl G) e R S m args below meth cd H locs cells slots _ (F0 m pc lsr (tr G (.ref x) :: r.map (tr G)))
      rw [tr_ref (two_le hx h1)]
      exact lv_ifnonnull X.1 X.2.1 hd (Int.toNat_of_nonneg ht).symm (h3 hx p e S m args below meth cd R H locs cells slots lsr X hM hS hl hn hc hs)
  · exact h.elim
end SD
