/-! Instructions on the heap -/
theorem find2_mem {α : Type} {l : List (Nat × Nat × α)} {own idx : Nat} {t : α} (h : (l.find? (fun e => e.1 == own && e.2.1 == idx)).map (fun e => e.2.2) = some t) : (own, idx, t) ∈ l := by
  obtain ⟨e, he, ht⟩ := Option.map_eq_some_iff.mp h
  have h1 := List.mem_of_find?_eq_some he
  have h2 := List.find?_some he
  simp only [Bool.and_eq_true, beq_iff_eq] at h2
  obtain ⟨e1, e2, e3⟩ := e
  obtain ⟨rfl, rfl⟩ := h2
  subst ht
  exact h1
theorem lkF_ok {own idx ci f : Nat} (h : lkF own idx = some (ci, f)) : Cond.fieldLink (cNm own) idx (cNm ci) (fT ci f).2.1 (fT ci f).2.2.1 ∈ tblG ∧ ci < 11 ∧ f < fN ci := gkLF_ok _ (find2_mem h)
theorem fKd_ok : ∀ ci, ci < 11 → ∀ k, k < fN ci → fKd (fY ci k) ≠ 9 := by decide +kernel
theorem fv_int {ty : FieldType} {x : Int32} {q : Nat} (h : fKd ty ≠ 1) : fv ty x q = .int x := by
  unfold fv
  split
  · rename_i h1; exact absurd h1 h
  · rfl
theorem fv_ref {ty : FieldType} {x : Int32} {q : Nat} (h : fKd ty = 1) : fv ty x q = .ref q := by
  unfold fv
  rw [h]
  rfl
theorem st_int {ty : FieldType} (x : Int32) (h : fKd ty = 0) : narrow ty (.int x) = .int x ∧ fits ty (.int x) = true := by
  cases ty <;> simp [fKd] at h
  exact ⟨rfl, rfl⟩
theorem st_bool {ty : FieldType} {x : Int32} (h : fKd ty = 2) (hx : x = 0 ∨ x = 1) : narrow ty (.int x) = .int x ∧ fits ty (.int x) = true := by
  cases ty <;> simp [fKd] at h
  rcases hx with rfl | rfl <;> exact ⟨rfl, rfl⟩
theorem st_ref {ty : FieldType} {v : Value} (h : fKd ty = 1) (hv : v = .null ∨ ∃ a, v = .ref a) : narrow ty v = v ∧ fits ty v = true := by
  cases ty <;> simp [fKd] at h <;> (rcases hv with rfl | ⟨a, rfl⟩ <;> exact ⟨rfl, rfl⟩)
theorem dflt_ok {G : GE} {ty : FieldType} (h : fKd ty ≠ 9) : defaultValue ty = tr G (fv ty 0 0) := by
  cases ty <;> first | rfl | exact absurd rfl h
section SH
variable {G : GE} {y d pc len : Nat} {Q : TQ} {ls : List (Option Value)} {st : List Value} {c s n : Nat} {sh : TS} {I : TI} {L : TL} {P : TP}
theorem lift_some {C : TC} {K W : TK} {α : Type} {o : Option α} {f : α → Option AI} (h : lift C d K W Q (match o with | some t => f t | none => none) ls st c s n sh I L P) : ∃ t, o = some t ∧ lift C d K W Q (f t) ls st c s n sh I L P := by
  cases o with
  | none => exact h.elim
  | some t => exact ⟨t, rfl, h⟩
/-- a field of one of the class's own objects is read -/
theorem wp_getf {idx ci f q : Nat} {r : List Value} (hd : decode (mBy y) pc = .ok (.getfield idx, 3)) (hl : lkF (mCi y) idx = some (ci, f)) (hq : (sh q).1 = ci) (h : WP G y d Q (pc + 3) ls (fv (fY ci f) (I q f) (P q f) :: r) c s n sh I L P) : WP G y d Q pc ls (.ref q :: r) c s n sh I L P := by
  obtain ⟨hlk, hci, hf⟩ := lkF_ok hl
  intro p e S m args below meth cd R H locs cells slots lsr X hM hS hlr hn hc hs
  obtain ⟨⟨cell, q1, q2, q3, q4⟩, hq20, -⟩ := hM.obj hq hci
  obtain ⟨hSl, hfc, kC, hkC, hkind⟩ := X.wk.1.1 ci _ (kCl_at hci)
  obtain ⟨cf, kf, fi, fd, hi, hsl⟩ := hSl f hf
  have hi' := hi
  rw [show (fT ci f).1 = cNm ci from fT_own ci hci f hf] at hi'
  show W p (Gl G) e R S m args below meth cd H locs cells slots _ (F0 m pc lsr (tr G (.ref q) :: r.map (tr G)))
  rw [tr_ref (by omega)]
  refine W.getf X.1 X.2.1 X.own (X.word _ hlk) hi' (u_facts hfc hkC (u_lays X.word (fT_ws ci hci) hf) hi).1 q1 (by rw [q3]; exact fun h => by cases h) (v := tr G (fv (fY ci f) (I q f) (P q f))) ?_ rfl rfl hd (h p e S m args below meth cd R H locs cells slots lsr X hM hS hlr hn hc hs)
  rw [hsl, q4 f hf]
/-- a field of one of the class's own objects is written -/
theorem wp_putf {idx ci f q : Nat} {v : Value} {r : List Value} {I' : TI} {P' : TP} (hd : decode (mBy y) pc = .ok (.putfield idx, 3)) (hl : lkF (mCi y) idx = some (ci, f)) (hfin : (fT ci f).2.2.2 = false ∨ (mKi y = 2 ∧ ci = mCi y)) (hq : (sh q).1 = ci)
    (hv : narrow (fY ci f) (tr G v) = tr G v ∧ fits (fY ci f) (tr G v) = true) (hI : ∀ b k, (b ≠ q ∨ k ≠ f) → I' b k = I b k) (hP : ∀ b k, (b ≠ q ∨ k ≠ f) → P' b k = P b k) (hw : v = fv (fY ci f) (I' q f) (P' q f))
    (h : WP G y d Q (pc + 3) ls r c s n sh I' L P') : WP G y d Q pc ls (v :: .ref q :: r) c s n sh I L P := by
  obtain ⟨hlk, hci, hf⟩ := lkF_ok hl
  intro p e S m args below meth cd R H locs cells slots lsr X hM hS hlr hn hc hs
  obtain ⟨⟨cell, q1, q2, q3, q4⟩, hq20, hqn⟩ := hM.obj hq hci
  have hKc := X.wk.1
  obtain ⟨hSl, hfc, kC, hkC, hkind⟩ := hKc.1 ci _ (kCl_at hci)
  obtain ⟨cf, kf, fi, fd, hi, hsl⟩ := hSl f hf
  have hi' := hi
  rw [show (fT ci f).1 = cNm ci from fT_own ci hci f hf] at hi'
  have hap := va_apart (own := cNm (mCi y)) X.word (fT_ws ci hci) (fY ci) (fT_ty ci hci) (fT_nm ci hci) hKc (kCl_at hci)
  have hst := (u_facts hfc hkC (u_lays X.word (fT_ws ci hci) hf) hi).1
  have hd0 := fT_ty ci hci f hf
  have hlay := X.word _ (fT_ws ci hci _ (u_in_lay hf))
  have fin : ∀ H' : Heap, H'[adr G q]? = some (cell.setSlot fd.slot (tr G v)) → H'.size = H.size → (∀ x, x ≠ adr G q → H'[x]? = H[x]?) → W p (Gl G) e R S m args below meth cd H' (locs ++ [⟨adr G q, fd.slot⟩]) cells slots (MQ below (QC G Q) args S (mMc y) (mMs y) (AA G)) (F0 m (pc + 3) lsr (r.map (tr G))) := by
    intro H' e1 e2 e3
    refine h p e S m args below meth cd R H' _ cells slots lsr X (hM.put hq20 e2 e3 (fun b k hb => hI b k (Or.inl hb)) (fun _ _ _ => rfl) (fun b k hb => hP b k (Or.inl hb)) (Or.inl ⟨by rw [hq]; exact hci, ?_, ?_⟩)) (hS.put e2 e3 (AA_adr hq20)) hlr hn hc hs
    · have h5 := hM.2.2.2.2 q hq20 hqn
      rcases h5 with ⟨-, h6, -⟩ | ⟨h6, -⟩
      · exact h6
      · omega
    · rw [hq]
      rw [hsl] at e1
      refine t_OB.to (V := updV (fun k => tr G (fv (fY ci k) (I q k) (P q k))) f (tr G v)) ⟨_, e1, q2, q3, t_set q4 hap hf (tr G v)⟩ (fun k _ => ?_)
      by_cases hk : k = f
      · subst hk
        show (if k = k then _ else _) = _
        rw [if_pos rfl, hw]
      · show (if k = f then _ else _) = _
        rw [if_neg hk, hI q k (Or.inr hk), hP q k (Or.inr hk)]
  show W p (Gl G) e R S m args below meth cd H locs cells slots _ (F0 m pc lsr (tr G v :: tr G (.ref q) :: r.map (tr G)))
  rw [tr_ref (Nat.le_trans (by decide) hq20 : 2 ≤ q)]
  have hhas : fd.slot < cell.slots.size := by rw [hsl]; exact k2_hasslot (q4 f hf)
  by_cases hfn : (fT ci f).2.2.2 = false
  · unfold u_lay at hlay
    rw [if_neg (by rw [hfn]; decide)] at hlay
    have h6 := u_store hfc hkC hkind hlay hi hd0 hv.1 hv.2
    exact W.putK X.1 X.2.1 (f := fd) ⟨X.own, X.word _ hlk, ⟨_, _, _, hi'⟩, hst⟩ (by rw [q2]; exact h6) q1 q3 hhas rfl rfl hd fin
  · have hfn' : (fT ci f).2.2.2 = true := by
      cases hz : (fT ci f).2.2.2 with
      | false => exact absurd hz hfn
      | true => rfl
    obtain ⟨hki, hco⟩ := hfin.resolve_left hfn
    unfold u_lay at hlay
    rw [if_pos hfn'] at hlay
    have hcf : m.cls = cf := by
      obtain ⟨_, _, c', _, _, _, -, -, hf', -, -, -, hown2, -⟩ := Cond.laysFinal_spec hlay
      have e1 : c' = cf := by have := hi.symm.trans hf'; simp at this; exact this.1.symm
      rw [show (fT ci f).1 = cNm (mCi y) by rw [fT_own ci hci f hf, hco]] at hown2
      rw [← e1]; exact Option.some.inj (X.own.symm.trans hown2)
    have h6 := u_fits hfc hkC hkind (Or.inr hlay) hi hd0 hv.1 hv.2
    exact W.putFinK X.1 X.2.1 X.own (X.word _ hlk) hi' hst hcf (X.inm hki) (by rw [q2]; exact h6) q1 q3 hhas rfl rfl hd fin
theorem lk3_ok {l : List (Nat × Nat × Nat)} {own idx t : Nat} (h : lk3 l own idx = some t) : (own, idx, t) ∈ l := find2_mem h
/-- a String constant's field is read -/
theorem wp_gets {idx q : Nat} {r : List Value} {v : Value} (hd : decode (mBy y) pc = .ok (.getfield idx, 3)) (hq : (sh q).1 = 11) {k : Nat} (hk : lk3 gkLU (mCi y) idx = some k) (hv : (k = 0 ∧ v = .ref (P q 0)) ∨ (k = 1 ∧ v = .int (I q 1)))
    (h : WP G y d Q (pc + 3) ls (v :: r) c s n sh I L P) : WP G y d Q pc ls (.ref q :: r) c s n sh I L P := by
  intro p e S m args below meth cd R H locs cells slots lsr X hM hS hlr hn hc hs
  obtain ⟨i, hi, rfl⟩ := hM.str hq
  have hE := (X.wk.2.2.2.2.2.2.2.1.1 i hi)
  obtain ⟨hb1, hb2⟩ := hM.2.2.1.2.2.2.2.2.2.2.2.2.1 i hi
  have ha : tr G (.ref (4 + i)) = .ref (GA G (4 + i)) := by
    rw [tr_ref (by omega)]
    exact congrArg Value.ref (if_pos (by omega))
  show W p (Gl G) e R S m args below meth cd H locs cells slots _ (F0 m pc lsr (tr G (.ref (4 + i)) :: r.map (tr G)))
  rw [ha]
  have h := h p e S m args below meth cd R H locs cells slots lsr X hM hS hlr hn hc hs
  rcases gkLU_ok _ (lk3_ok hk) with ⟨h0, hw⟩ | ⟨h1, hw⟩
  · rcases hv with ⟨-, rfl⟩ | ⟨hv, -⟩
    · have e9 : tr G (.ref (P (4 + i) 0)) = .ref (GA G (9 + i)) := by
        rw [hb1, tr_ref (by omega)]
        exact congrArg Value.ref (if_pos (by omega))
      have h : W p (Gl G) e R S m args below meth cd H locs cells slots _ (F0 m (pc + 3) lsr (tr G (.ref (P (4 + i) 0)) :: r.map (tr G))) := h
      rw [e9] at h
      exact vk_getf X.1 X.2.1 hE.2.2.1 hS X.own (X.word _ hw) (fun _ z => z) hd h
    · have h0 : k = 0 := h0
      omega
  · rcases hv with ⟨hv, -⟩ | ⟨-, rfl⟩
    · have h1 : k = 1 := h1
      omega
    · have h : W p (Gl G) e R S m args below meth cd H locs cells slots _ (F0 m (pc + 3) lsr (.int (I (4 + i) 1) :: r.map (tr G))) := h
      rw [hb2] at h
      exact vk_getf X.1 X.2.1 hE.2.1 hS X.own (X.word _ hw) (fun _ z => z) hd h
theorem sd_getfield {idx : Nat} (hd : decode (mBy y) pc = .ok (.getfield idx, len)) (h : LI G y d Q pc (.getfield idx) len ls st c s n sh I L P) : WP G y d Q pc ls st c s n sh I L P := by
  obtain ⟨rfl, h⟩ := lift_if h
  split at h
  · rename_i ci f hl
    split at h
    · rename_i hk
      have h : (match (generalizing := false) st with | .ref q :: r => (sh q).1 = ci ∧ WP G y d Q (pc + 3) ls (.int (I q f) :: r) c s n sh I L P | _ => False) := h
      split at h
      · exact wp_getf hd hl h.1 (by rw [fv_int (by rw [hk]; decide)]; exact h.2)
      · exact h.elim
    · rename_i hk
      have h : (match (generalizing := false) st with | .ref q :: r => (sh q).1 = ci ∧ WP G y d Q (pc + 3) ls (.int (I q f) :: r) c s n sh I L P | _ => False) := h
      split at h
      · exact wp_getf hd hl h.1 (by rw [fv_int (by rw [hk]; decide)]; exact h.2)
      · exact h.elim
    · rename_i hk
      have h : (match (generalizing := false) st with | .ref q :: r => (sh q).1 = ci ∧ WP G y d Q (pc + 3) ls (.ref (P q f) :: r) c s n sh I L P | _ => False) := h
      split at h
      · exact wp_getf hd hl h.1 (by rw [fv_ref hk]; exact h.2)
      · exact h.elim
    · exact h.elim
  · split at h
    · rename_i hk
      have h : (match (generalizing := false) st with | .ref q :: r => (sh q).1 = 11 ∧ WP G y d Q (pc + 3) ls (.ref (P q 0) :: r) c s n sh I L P | _ => False) := h
      split at h
      · exact wp_gets hd h.1 hk (Or.inl ⟨rfl, rfl⟩) h.2
      · exact h.elim
    · rename_i hk
      have h : (match (generalizing := false) st with | .ref q :: r => (sh q).1 = 11 ∧ WP G y d Q (pc + 3) ls (.int (I q 1) :: r) c s n sh I L P | _ => False) := h
      split at h
      · exact wp_gets hd h.1 hk (Or.inr ⟨rfl, rfl⟩) h.2
      · exact h.elim
    · exact h.elim
theorem up2_at {α : Type} {f : Nat → Nat → α} {q k : Nat} {v : α} : up2 f q k v q k = v := if_pos ⟨rfl, rfl⟩
theorem up2_ne {α : Type} {f : Nat → Nat → α} {q k a b : Nat} {v : α} (h : a ≠ q ∨ b ≠ k) : up2 f q k v a b = f a b := if_neg (fun z => h.elim (fun h => h z.1) (fun h => h z.2))
theorem sd_putfield {idx : Nat} (hd : decode (mBy y) pc = .ok (.putfield idx, len)) (h : LI G y d Q pc (.putfield idx) len ls st c s n sh I L P) : WP G y d Q pc ls st c s n sh I L P := by
  obtain ⟨rfl, h⟩ := lift_if h
  split at h
  · rename_i ci f hl
    obtain ⟨hfin, h⟩ := lift_if h
    split at h
    · rename_i hk
      have h : (match (generalizing := false) st with | .int x :: .ref q :: r => (sh q).1 = ci ∧ WP G y d Q (pc + 3) ls r c s n sh (up2 I q f x) L P | _ => False) := h
      split at h
      · exact wp_putf (P' := P) hd hl hfin h.1 (st_int _ hk) (fun _ _ => up2_ne) (fun _ _ _ => rfl) (by rw [fv_int (by rw [hk]; decide), up2_at]) h.2
      · exact h.elim
    · rename_i hk
      have h : (match (generalizing := false) st with | .int x :: .ref q :: r => (sh q).1 = ci ∧ (x = 0 ∨ x = 1) ∧ WP G y d Q (pc + 3) ls r c s n sh (up2 I q f x) L P | _ => False) := h
      split at h
      · exact wp_putf (P' := P) hd hl hfin h.1 (st_bool hk h.2.1) (fun _ _ => up2_ne) (fun _ _ _ => rfl) (by rw [fv_int (by rw [hk]; decide), up2_at]) h.2.2
      · exact h.elim
    · rename_i hk
      have h : (match (generalizing := false) st with | .ref x :: .ref q :: r => (sh q).1 = ci ∧ ¬ neq x 1 ∧ WP G y d Q (pc + 3) ls r c s n sh I L (up2 P q f x) | _ => False) := h
      split at h
      · rename_i x q r _ _ _
        have hv : tr G (.ref x) = .null ∨ ∃ a, tr G (.ref x) = .ref a := by
          by_cases hx : neq x 0
          · have hx : x = 0 := hx
            subst hx; exact Or.inl rfl
          · exact Or.inr ⟨_, tr_ref (two_le hx h.2.1)⟩
        exact wp_putf (I' := I) hd hl hfin h.1 (st_ref hk hv) (fun _ _ _ => rfl) (fun _ _ => up2_ne) (by rw [fv_ref hk, up2_at]) h.2.2
      · exact h.elim
    · exact h.elim
  · exact h.elim
theorem sd_iaload (hd : decode (mBy y) pc = .ok (.iaload, len)) (h : LI G y d Q pc (.iaload) len ls st c s n sh I L P) : WP G y d Q pc ls st c s n sh I L P := by
  obtain ⟨rfl, h⟩ := lift_if h
  have h : (match (generalizing := false) st with | .int j :: .ref q :: r => (sh q).1 = 100 ∧ vp_in j (sh q).2 ∧ WP G y d Q (pc + 1) ls (.int (I q j.toNatClampNeg) :: r) c s n sh I L P | _ => False) := h
  split at h
  · rename_i j q r _ _
    obtain ⟨h1, h2, h⟩ := h
    intro p e S m args below meth cd R H locs cells slots lsr X hM hS hl hn hc hs
    obtain ⟨⟨cell, a1, a2, a3, a4, a5, a6⟩, hq2, -⟩ := hM.arr X.wk.2.2.2.2 hS (a := q) (by rw [h1]; decide) (by rw [h1]; decide)
    have hlt : j.toNatClampNeg < (sh q).2 := Nat.not_le.mp fun z => h2 (Or.inr z)
    have a6 := a6 _ hlt
    rw [h1] at a2 a6
    show W p (Gl G) e R S m args below meth cd H locs cells slots _ (F0 m pc lsr (.int j :: tr G (.ref q) :: r.map (tr G)))
    rw [tr_ref hq2]
    exact W.iald X.1 X.2.1 a1 a2 a3 (fun z => h2 (z.elim Or.inl fun z => Or.inr (Nat.le_trans a4 z))) a6 rfl rfl hd (h p e S m args below meth cd R H locs cells slots lsr X hM hS hl hn hc hs)
  · exact h.elim
theorem sd_laload (hd : decode (mBy y) pc = .ok (.laload, len)) (h : LI G y d Q pc (.laload) len ls st c s n sh I L P) : WP G y d Q pc ls st c s n sh I L P := by
  obtain ⟨rfl, h⟩ := lift_if h
  have h : (match (generalizing := false) st with | .int j :: .ref q :: r => (sh q).1 = 101 ∧ vp_in j (sh q).2 ∧ WP G y d Q (pc + 1) ls (.long (L q j.toNatClampNeg) :: r) c s n sh I L P | _ => False) := h
  split at h
  · rename_i j q r _ _
    obtain ⟨h1, h2, h⟩ := h
    intro p e S m args below meth cd R H locs cells slots lsr X hM hS hl hn hc hs
    obtain ⟨⟨cell, a1, a2, a3, a4, a5, a6⟩, hq2, -⟩ := hM.arr X.wk.2.2.2.2 hS (a := q) (by rw [h1]; decide) (by rw [h1]; decide)
    have hlt : j.toNatClampNeg < (sh q).2 := Nat.not_le.mp fun z => h2 (Or.inr z)
    have a6 := a6 _ hlt
    rw [h1] at a2 a6
    show W p (Gl G) e R S m args below meth cd H locs cells slots _ (F0 m pc lsr (.int j :: tr G (.ref q) :: r.map (tr G)))
    rw [tr_ref hq2]
    exact W.lald X.1 X.2.1 a1 a2 a3 (fun z => h2 (z.elim Or.inl fun z => Or.inr (Nat.le_trans a4 z))) a6 rfl rfl hd (h p e S m args below meth cd R H locs cells slots lsr X hM hS hl hn hc hs)
  · exact h.elim
theorem sd_caload (hd : decode (mBy y) pc = .ok (.caload, len)) (h : LI G y d Q pc (.caload) len ls st c s n sh I L P) : WP G y d Q pc ls st c s n sh I L P := by
  obtain ⟨rfl, h⟩ := lift_if h
  have h : (match (generalizing := false) st with | .int j :: .ref q :: r => (sh q).1 = 102 ∧ vp_in j (sh q).2 ∧ WP G y d Q (pc + 1) ls (.int (I q j.toNatClampNeg) :: r) c s n sh I L P | _ => False) := h
  split at h
  · rename_i j q r _ _
    obtain ⟨h1, h2, h⟩ := h
    intro p e S m args below meth cd R H locs cells slots lsr X hM hS hl hn hc hs
    obtain ⟨⟨cell, a1, a2, a3, a4, a5, a6⟩, hq2, -⟩ := hM.arr X.wk.2.2.2.2 hS (a := q) (by rw [h1]; decide) (by rw [h1]; decide)
    have hlt : j.toNatClampNeg < (sh q).2 := Nat.not_le.mp fun z => h2 (Or.inr z)
    have a6 := a6 _ hlt
    rw [h1] at a2 a6
    show W p (Gl G) e R S m args below meth cd H locs cells slots _ (F0 m pc lsr (.int j :: tr G (.ref q) :: r.map (tr G)))
    rw [tr_ref hq2]
    exact W.cald X.1 X.2.1 a1 a2 a3 (fun z => h2 (z.elim Or.inl fun z => Or.inr (Nat.le_trans a4 z))) a6 rfl rfl hd (h p e S m args below meth cd R H locs cells slots lsr X hM hS hl hn hc hs)
  · exact h.elim
theorem sd_baload (hd : decode (mBy y) pc = .ok (.baload, len)) (h : LI G y d Q pc (.baload) len ls st c s n sh I L P) : WP G y d Q pc ls st c s n sh I L P := by
  obtain ⟨rfl, h⟩ := lift_if h
  have h : (match (generalizing := false) st with | .int j :: .ref q :: r => (sh q).1 = 103 ∧ vp_in j (sh q).2 ∧ WP G y d Q (pc + 1) ls (.int (I q j.toNatClampNeg) :: r) c s n sh I L P | _ => False) := h
  split at h
  · rename_i j q r _ _
    obtain ⟨h1, h2, h⟩ := h
    intro p e S m args below meth cd R H locs cells slots lsr X hM hS hl hn hc hs
    obtain ⟨⟨cell, a1, a2, a3, a4, a5, a6⟩, hq2, -⟩ := hM.arr X.wk.2.2.2.2 hS (a := q) (by rw [h1]; decide) (by rw [h1]; decide)
    have hlt : j.toNatClampNeg < (sh q).2 := Nat.not_le.mp fun z => h2 (Or.inr z)
    have a6 := a6 _ hlt
    rw [h1] at a2 a6
    show W p (Gl G) e R S m args below meth cd H locs cells slots _ (F0 m pc lsr (.int j :: tr G (.ref q) :: r.map (tr G)))
    rw [tr_ref hq2]
    exact W.bald X.1 X.2.1 a1 a2 a3 (fun z => h2 (z.elim Or.inl fun z => Or.inr (Nat.le_trans a4 z))) a6 rfl rfl hd (h p e S m args below meth cd R H locs cells slots lsr X hM hS hl hn hc hs)
  · exact h.elim
theorem sd_aaload (hd : decode (mBy y) pc = .ok (.aaload, len)) (h : LI G y d Q pc (.aaload) len ls st c s n sh I L P) : WP G y d Q pc ls st c s n sh I L P := by
  obtain ⟨rfl, h⟩ := lift_if h
  have h : (match (generalizing := false) st with | .int j :: .ref q :: r => ((sh q).1 = 104 ∨ (sh q).1 = 105) ∧ vp_in j (sh q).2 ∧ WP G y d Q (pc + 1) ls (.ref (P q j.toNatClampNeg) :: r) c s n sh I L P | _ => False) := h
  split at h
  · rename_i j q r _ _
    obtain ⟨h1, h2, h⟩ := h
    intro p e S m args below meth cd R H locs cells slots lsr X hM hS hl hn hc hs
    obtain ⟨⟨cell, a1, a2, a3, a4, a5, a6⟩, hq2, -⟩ := hM.arr X.wk.2.2.2.2 hS (a := q) (by rcases h1 with h1 | h1 <;> rw [h1] <;> decide) (by rcases h1 with h1 | h1 <;> rw [h1] <;> decide)
    have hlt : j.toNatClampNeg < (sh q).2 := Nat.not_le.mp fun z => h2 (Or.inr z)
    have a6 := a6 _ hlt
    have ht : (aty (sh q).1).isReference = true := by rcases h1 with h1 | h1 <;> rw [h1] <;> rfl
    have he : ev (sh q).1 (I q j.toNatClampNeg) (L q j.toNatClampNeg) (P q j.toNatClampNeg) = .ref (P q j.toNatClampNeg) := by rcases h1 with h1 | h1 <;> rw [h1] <;> rfl
    have a6 : cell.slots[j.toNatClampNeg]? = some (tr G (ev (sh q).1 (I q j.toNatClampNeg) (L q j.toNatClampNeg) (P q j.toNatClampNeg))) := a6
    rw [he] at a6
    show W p (Gl G) e R S m args below meth cd H locs cells slots _ (F0 m pc lsr (.int j :: tr G (.ref q) :: r.map (tr G)))
    rw [tr_ref hq2]
    exact W.aald X.1 X.2.1 a1 a2 ht a3 (fun z => h2 (z.elim Or.inl fun z => Or.inr (Nat.le_trans a4 z))) a6 rfl rfl hd (h p e S m args below meth cd R H locs cells slots lsr X hM hS hl hn hc hs)
  · exact h.elim
theorem sd_arraylength (hd : decode (mBy y) pc = .ok (.arraylength, len)) (h : LI G y d Q pc (.arraylength) len ls st c s n sh I L P) : WP G y d Q pc ls st c s n sh I L P := by
  obtain ⟨rfl, h⟩ := lift_if h
  have h : (match (generalizing := false) st with | .ref q :: r => 100 ≤ (sh q).1 ∧ (sh q).1 ≤ 105 ∧ WP G y d Q (pc + 1) ls (.int (Int32.ofNat (sh q).2) :: r) c s n sh I L P | _ => False) := h
  split at h
  · rename_i q r _ _
    obtain ⟨h1, h2, h⟩ := h
    intro p e S m args below meth cd R H locs cells slots lsr X hM hS hl hn hc hs
    obtain ⟨⟨cell, a1, a2, a3, a4, a5, a6⟩, hq2, -⟩ := hM.arr X.wk.2.2.2.2 hS (a := q) h1 h2
    show W p (Gl G) e R S m args below meth cd H locs cells slots _ (F0 m pc lsr (tr G (.ref q) :: r.map (tr G)))
    rw [tr_ref hq2]
    exact W.alen X.1 X.2.1 a1 a2 a5 rfl rfl hd (h p e S m args below meth cd R H locs cells slots lsr X hM hS hl hn hc hs)
  · exact h.elim
theorem sd_iastore (hd : decode (mBy y) pc = .ok (.iastore, len)) (h : LI G y d Q pc (.iastore) len ls st c s n sh I L P) : WP G y d Q pc ls st c s n sh I L P := by
  obtain ⟨rfl, h⟩ := lift_if h
  have h : (match (generalizing := false) st with | .int x :: .int j :: .ref q :: r => nle 20 q ∧ (sh q).1 = 100 ∧ vp_in j (sh q).2 ∧ WP G y d Q (pc + 1) ls r c s n sh (up2 I q j.toNatClampNeg x) L P | _ => False) := h
  split at h
  · rename_i x j q r _ _
    obtain ⟨h0, h1, h2, h⟩ := h
    unfold nle at h0
    intro p e S m args below meth cd R H locs cells slots lsr X hM hS hl hn hc hs
    obtain ⟨⟨cA, a1, a2⟩, hqn⟩ := hM.arrD (a := q) h0 (by rw [h1]; decide) (by rw [h1]; decide)
    have a3 := a2.1 (sh q).2 (fun j => tr G (ev (sh q).1 (I q j) (L q j) (P q j)))
    have a4 : S.isArrayOf (arrV cA (sh q).2 (fun j => tr G (ev (sh q).1 (I q j) (L q j) (P q j)))) (aty 100) := by rw [h1] at a3 ⊢; exact a3
    show W p (Gl G) e R S m args below meth cd H locs cells slots _ (F0 m pc lsr (.int x :: .int j :: tr G (.ref q) :: r.map (tr G)))
    rw [tr_ref (Nat.le_trans (by decide) h0 : 2 ≤ q)]
    refine W.iast X.1 X.2.1 a1 a4 (fun z => by cases z) (by rw [arrV_size]; exact h2) rfl rfl hd fun H' e1 e2 e3 => ?_
    refine h p e S m args below meth cd R H' _ cells slots lsr X (hM.put h0 e2 e3 (fun b k hb => up2_ne (Or.inl hb)) (fun b k hb => rfl) (fun _ _ _ => rfl) (Or.inr ⟨by rw [h1]; decide, by rw [h1]; decide, cA, ?_, a2⟩)) (hS.put e2 e3 (AA_adr h0)) hl hn hc hs
    rw [e1, arrV_store]
    refine congrArg some (arrV_congr fun i hi => ?_)
    rw [h1]
    by_cases hi : i = j.toNatClampNeg
    · subst hi
      show (if j.toNatClampNeg = j.toNatClampNeg then _ else _) = _
      rw [if_pos rfl, up2_at]
      rfl
    · show (if i = j.toNatClampNeg then _ else _) = _
      rw [if_neg hi, up2_ne (Or.inr hi)]
  · exact h.elim
theorem sd_lastore (hd : decode (mBy y) pc = .ok (.lastore, len)) (h : LI G y d Q pc (.lastore) len ls st c s n sh I L P) : WP G y d Q pc ls st c s n sh I L P := by
  obtain ⟨rfl, h⟩ := lift_if h
  have h : (match (generalizing := false) st with | .long x :: .int j :: .ref q :: r => nle 20 q ∧ (sh q).1 = 101 ∧ vp_in j (sh q).2 ∧ WP G y d Q (pc + 1) ls r c s n sh I (up2 L q j.toNatClampNeg x) P | _ => False) := h
  split at h
  · rename_i x j q r _ _
    obtain ⟨h0, h1, h2, h⟩ := h
    unfold nle at h0
    intro p e S m args below meth cd R H locs cells slots lsr X hM hS hl hn hc hs
    obtain ⟨⟨cA, a1, a2⟩, hqn⟩ := hM.arrD (a := q) h0 (by rw [h1]; decide) (by rw [h1]; decide)
    have a3 := a2.1 (sh q).2 (fun j => tr G (ev (sh q).1 (I q j) (L q j) (P q j)))
    have a4 : S.isArrayOf (arrV cA (sh q).2 (fun j => tr G (ev (sh q).1 (I q j) (L q j) (P q j)))) (aty 101) := by rw [h1] at a3 ⊢; exact a3
    show W p (Gl G) e R S m args below meth cd H locs cells slots _ (F0 m pc lsr (.long x :: .int j :: tr G (.ref q) :: r.map (tr G)))
    rw [tr_ref (Nat.le_trans (by decide) h0 : 2 ≤ q)]
    refine W.last X.1 X.2.1 a1 a4 (fun z => by cases z) (by rw [arrV_size]; exact h2) rfl rfl hd fun H' e1 e2 e3 => ?_
    refine h p e S m args below meth cd R H' _ cells slots lsr X (hM.put h0 e2 e3 (fun b k hb => rfl) (fun b k hb => up2_ne (Or.inl hb)) (fun _ _ _ => rfl) (Or.inr ⟨by rw [h1]; decide, by rw [h1]; decide, cA, ?_, a2⟩)) (hS.put e2 e3 (AA_adr h0)) hl hn hc hs
    rw [e1, arrV_store]
    refine congrArg some (arrV_congr fun i hi => ?_)
    rw [h1]
    by_cases hi : i = j.toNatClampNeg
    · subst hi
      show (if j.toNatClampNeg = j.toNatClampNeg then _ else _) = _
      rw [if_pos rfl, up2_at]
      rfl
    · show (if i = j.toNatClampNeg then _ else _) = _
      rw [if_neg hi, up2_ne (Or.inr hi)]
  · exact h.elim
theorem sd_castore (hd : decode (mBy y) pc = .ok (.castore, len)) (h : LI G y d Q pc (.castore) len ls st c s n sh I L P) : WP G y d Q pc ls st c s n sh I L P := by
  obtain ⟨rfl, h⟩ := lift_if h
  have h : (match (generalizing := false) st with | .int x :: .int j :: .ref q :: r => nle 20 q ∧ (sh q).1 = 102 ∧ vp_in j (sh q).2 ∧ narrow .char (.int x) = .int x ∧ WP G y d Q (pc + 1) ls r c s n sh (up2 I q j.toNatClampNeg x) L P | _ => False) := h
  split at h
  · rename_i x j q r _ _
    obtain ⟨h0, h1, h2, h3, h⟩ := h
    unfold nle at h0
    intro p e S m args below meth cd R H locs cells slots lsr X hM hS hl hn hc hs
    obtain ⟨⟨cA, a1, a2⟩, hqn⟩ := hM.arrD (a := q) h0 (by rw [h1]; decide) (by rw [h1]; decide)
    have a3 := a2.1 (sh q).2 (fun j => tr G (ev (sh q).1 (I q j) (L q j) (P q j)))
    have a4 : S.isArrayOf (arrV cA (sh q).2 (fun j => tr G (ev (sh q).1 (I q j) (L q j) (P q j)))) (aty 102) := by rw [h1] at a3 ⊢; exact a3
    show W p (Gl G) e R S m args below meth cd H locs cells slots _ (F0 m pc lsr (.int x :: .int j :: tr G (.ref q) :: r.map (tr G)))
    rw [tr_ref (Nat.le_trans (by decide) h0 : 2 ≤ q)]
    refine W.cast X.1 X.2.1 a1 a4 (fun z => by cases z) (by rw [arrV_size]; exact h2) rfl rfl hd fun H' e1 e2 e3 => ?_
    refine h p e S m args below meth cd R H' _ cells slots lsr X (hM.put h0 e2 e3 (fun b k hb => up2_ne (Or.inl hb)) (fun b k hb => rfl) (fun _ _ _ => rfl) (Or.inr ⟨by rw [h1]; decide, by rw [h1]; decide, cA, ?_, a2⟩)) (hS.put e2 e3 (AA_adr h0)) hl hn hc hs
    rw [e1, arrV_store]
    refine congrArg some (arrV_congr fun i hi => ?_)
    rw [h1]
    rw [h3]
    by_cases hi : i = j.toNatClampNeg
    · subst hi
      show (if j.toNatClampNeg = j.toNatClampNeg then _ else _) = _
      rw [if_pos rfl, up2_at]
      rfl
    · show (if i = j.toNatClampNeg then _ else _) = _
      rw [if_neg hi, up2_ne (Or.inr hi)]
  · exact h.elim
theorem sd_aastore (hd : decode (mBy y) pc = .ok (.aastore, len)) (h : LI G y d Q pc (.aastore) len ls st c s n sh I L P) : WP G y d Q pc ls st c s n sh I L P := by
  obtain ⟨rfl, h⟩ := lift_if h
  have h : (match (generalizing := false) st with | .ref x :: .int j :: .ref q :: r => nle 20 q ∧ (((sh q).1 = 104 ∧ (sh x).1 = 3) ∨ ((sh q).1 = 105 ∧ (sh x).1 = 6)) ∧ vp_in j (sh q).2 ∧ WP G y d Q (pc + 1) ls r c s n sh I L (up2 P q j.toNatClampNeg x) | _ => False) := h
  split at h
  · rename_i x j q r _ _
    obtain ⟨h0, h1, h2, h⟩ := h
    unfold nle at h0
    intro p e S m args below meth cd R H locs cells slots lsr X hM hS hl hn hc hs
    obtain ⟨⟨cA, a1, a2⟩, hqn⟩ := hM.arrD (a := q) h0 (by rcases h1 with h1 | h1 <;> rw [h1.1] <;> decide) (by rcases h1 with h1 | h1 <;> rw [h1.1] <;> decide)
    obtain ⟨ci, hci, hx, hra⟩ : ∃ ci, ci < 11 ∧ (sh x).1 = ci ∧ va_RA S cA (.object (cNm ci)) := by
      rcases h1 with h1 | h1
      · refine ⟨3, by decide, h1.2, ?_⟩
        have := a2.2
        rw [h1.1] at this
        exact this
      · refine ⟨6, by decide, h1.2, ?_⟩
        have := a2.2
        rw [h1.1] at this
        exact this
    obtain ⟨⟨cv, v1, v2, v3, v4⟩, hx20, -⟩ := hM.obj hx hci
    obtain ⟨kA, comp, k1, k2, k3, -⟩ := hra
    have hcls := (X.wk.1.1 ci _ (kCl_at hci)).2
    obtain ⟨kC, hkC, -⟩ := hcls.2
    have hcomp : comp = (GD G).1 ci := Option.some.inj (k3.symm.trans hcls.1)
    subst hcomp
    have hev : ∀ i a, ev (sh q).1 (I q i) (L q i) a = .ref a := fun i a => by rcases h1 with h1 | h1 <;> rw [h1.1] <;> rfl
    show W p (Gl G) e R S m args below meth cd H locs cells slots _ (F0 m pc lsr (tr G (.ref x) :: .int j :: tr G (.ref q) :: r.map (tr G)))
    rw [tr_ref (Nat.le_trans (by decide) h0 : 2 ≤ q), tr_ref (Nat.le_trans (by decide) hx20 : 2 ≤ x)]
    refine W.aast X.1 X.2.1 a1 (fun z h => by cases h) (fun z => by cases z) k1 k2 rfl hkC ⟨fun z => h2 (Or.inl z), by rw [arrV_size]; exact Nat.not_le.mp fun z => h2 (Or.inr z)⟩ v1 (fun z h => by rw [v3] at h; cases h) (by rw [v2]; exact hkC) (by rw [v2]; exact va_assign hcls) rfl rfl hd fun H' e1 e2 e3 => ?_
    refine h p e S m args below meth cd R H' _ cells slots lsr X (hM.put h0 e2 e3 (fun _ _ _ => rfl) (fun _ _ _ => rfl) (fun b k hb => up2_ne (Or.inl hb)) (Or.inr ⟨by rcases h1 with h1 | h1 <;> rw [h1.1] <;> decide, by rcases h1 with h1 | h1 <;> rw [h1.1] <;> decide, cA, ?_, a2⟩)) (hS.put e2 e3 (AA_adr h0)) hl hn hc hs
    rw [e1, arrV_store]
    refine congrArg some (arrV_congr fun i hi => ?_)
    rw [hev]
    by_cases hi : i = j.toNatClampNeg
    · subst hi
      show (if j.toNatClampNeg = j.toNatClampNeg then _ else _) = _
      rw [if_pos rfl, up2_at, tr_ref (Nat.le_trans (by decide) hx20 : 2 ≤ x)]
    · show (if i = j.toNatClampNeg then _ else _) = _
      rw [if_neg hi, up2_ne (Or.inr hi)]
      show tr G (ev (sh q).1 (I q i) (L q i) (P q i)) = _
      rw [hev]
  · exact h.elim
end SH
