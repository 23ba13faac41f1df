/-! Constants of the pool, what is made, switches, ends, calls -/
section SR
variable {G : GE} {y d pc len : Nat} {Q : TQ} {ls : List (Option Value)} {st : List Value} {c s n : Nat} {sh : TS} {I : TI} {L : TL} {P : TP}
theorem lkT_ok {own idx t : Nat} (h : lkT own idx = some t) : ∃ tx, (own, idx, tx, t) ∈ gkLT := by
  unfold lkT at h
  obtain ⟨e, he, ht⟩ := Option.map_eq_some_iff.mp h
  have h1 := List.mem_of_find?_eq_some he
  have h2 := List.find?_some he
  simp only [Bool.and_eq_true, beq_iff_eq] at h2
  obtain ⟨e1, e2, e3, e4⟩ := e
  obtain ⟨rfl, rfl⟩ := h2
  subst ht
  exact ⟨e3, h1⟩
theorem gkLT_lt : ∀ e ∈ gkLT, e.2.2.2 < 5 := by decide +kernel
theorem tr_low {a : Nat} (h : 2 ≤ a) (h2 : a < 20) : tr G (.ref a) = .ref (GA G a) := by
  rw [tr_ref h]
  exact congrArg Value.ref (if_pos h2)
theorem sd_ldc {idx : Nat} (hd : decode (mBy y) pc = .ok (.ldc idx, len)) (h : LI G y d Q pc (.ldc idx) len ls st c s n sh I L P) : WP G y d Q pc ls st c s n sh I L P := by
  obtain ⟨rfl, h⟩ := lift_if h
  split at h
  · rename_i v hv
    have h : WP G y d Q (pc + 2) ls (.int v :: st) c s n sh I L P := h
    intro p e S m args below meth cd R H locs cells slots lsr X hM hS hl hn hc hs
    exact lv_ldc X.1 X.2.1 X.own (X.word _ (gkLI_ok _ (find2_mem hv))) hd (h p e S m args below meth cd R H locs cells slots lsr X hM hS hl hn hc hs)
  · split at h
    · rename_i t ht
      have h : WP G y d Q (pc + 2) ls (.ref (4 + t) :: st) c s n sh I L P := h
      obtain ⟨tx, hm⟩ := lkT_ok ht
      have h5 : t < 5 := gkLT_lt _ hm
      intro p e S m args below meth cd R H locs cells slots lsr X hM hS hl hn hc hs
      have h := h p e S m args below meth cd R H locs cells slots lsr X hM hS hl hn hc hs
      have h : W p (Gl G) e R S m args below meth cd H locs cells slots (MQ below (QC G Q) args S (mMc y) (mMs y) (AA G)) (F0 m (pc + 2) lsr (tr G (.ref (4 + t)) :: st.map (tr G))) := h
      rw [tr_low (by omega) (by omega)] at h
      have hz : vk_R (cNm (mCi y)) idx tx (GA G (4 + t)) S := X.wk.2.2.2.2.2.2.2.2.1 (mCi y, idx, tx, t) hm
      exact va_ldcS X.1 X.2.1 X.own hz hd h
    · exact h.elim
theorem sd_ldc_w {idx : Nat} (hd : decode (mBy y) pc = .ok (.ldc_w idx, len)) (h : LI G y d Q pc (.ldc_w idx) len ls st c s n sh I L P) : WP G y d Q pc ls st c s n sh I L P := by
  obtain ⟨rfl, h⟩ := lift_if h
  split at h
  · rename_i v hv
    have h : WP G y d Q (pc + 3) ls (.int v :: st) c s n sh I L P := h
    intro p e S m args below meth cd R H locs cells slots lsr X hM hS hl hn hc hs
    exact lv_ldcw X.1 X.2.1 X.own (X.word _ (gkLI_ok _ (find2_mem hv))) hd (h p e S m args below meth cd R H locs cells slots lsr X hM hS hl hn hc hs)
  · exact h.elim
theorem sd_ldc2_w {idx : Nat} (hd : decode (mBy y) pc = .ok (.ldc2_w idx, len)) (h : LI G y d Q pc (.ldc2_w idx) len ls st c s n sh I L P) : WP G y d Q pc ls st c s n sh I L P := by
  obtain ⟨rfl, h⟩ := lift_if h
  split at h
  · rename_i v hv
    have h : WP G y d Q (pc + 3) ls (.long v :: st) c s n sh I L P := h
    intro p e S m args below meth cd R H locs cells slots lsr X hM hS hl hn hc hs
    exact lv_ldc2 X.1 X.2.1 X.own (X.word _ (gkLL_ok _ (find2_mem hv))) hd (h p e S m args below meth cd R H locs cells slots lsr X hM hS hl hn hc hs)
  · exact h.elim
theorem sd_getstatic {idx : Nat} (hd : decode (mBy y) pc = .ok (.getstatic idx, len)) (h : LI G y d Q pc (.getstatic idx) len ls st c s n sh I L P) : WP G y d Q pc ls st c s n sh I L P := by
  obtain ⟨rfl, h⟩ := lift_if h
  split at h
  · rename_i t ht
    have h : WP G y d Q (pc + 3) ls (stV t :: st) c s n sh I L P := h
    obtain ⟨hw, h3⟩ := gkLS_ok _ (lk3_ok ht)
    intro p e S m args below meth cd R H locs cells slots lsr X hM hS hl hn hc hs
    exact va_gets X.1 X.2.1 (X.wk.2.2.2.2.1 t h3) hS X.own (X.word _ hw) (fun _ z => z) hd (h p e S m args below meth cd R H locs cells slots lsr X hM hS hl hn hc hs)
  · exact h.elim
theorem Mat.hs {S : State} {H : Heap} {locs : List Loc} (hM : Mat G S H n sh I L P) (hS : va_S (AA G) S.heap H locs) : GS G ≤ H.size := by
  obtain ⟨h1, h2, -⟩ := hM
  omega
theorem sd_new {idx : Nat} (hd : decode (mBy y) pc = .ok (.new idx, len)) (h : LI G y d Q pc (.new idx) len ls st c s n sh I L P) : WP G y d Q pc ls st c s n sh I L P := by
  obtain ⟨rfl, h⟩ := lift_if h
  split at h
  · rename_i ci hci
    have h : 1 ≤ c ∧ fN ci ≤ s ∧ WP G y d Q (pc + 3) ls (.ref n :: st) (c - 1) (s - fN ci) (n + 1) (upS sh n (ci, fN ci)) (clr I n 0) (clr L n 0) (clr P n 0) := h
    obtain ⟨h1, h2, h⟩ := h
    obtain ⟨hw, hlt⟩ := gkLC_ok _ (lk3_ok hci)
    have hlt : ci < 11 := hlt
    obtain ⟨hi1, hi2⟩ := gkI_ok ci hlt
    intro p e S m args below meth cd R H locs cells slots lsr X hM hS hl hn hc hs
    have hKn := X.wk.1.1 ci _ (kCl_at hlt)
    refine W.newcK X.1 X.2.1 X.own (X.word _ hw) (X.word _ hi1) (X.word _ hi2) rfl hd (by rw [X.cells]; omega) (by rw [X.slots]; omega) hKn.2.1 rfl fun H1 kC hkC e1 z1 o1 => ?_
    have ht := hM.top
    have hsh : upS sh n (ci, fN ci) n = (ci, fN ci) := if_pos rfl
    have h := h p e S m args below meth cd R H1 locs (cells + 1) (slots + fN ci) lsr X (hM.new z1 o1 (Or.inl ⟨by rw [hsh]; exact hlt, by rw [hsh], ?_⟩)) ⟨Nat.le_trans hS.1 (by omega), fun x g1 g2 => (o1 x (Nat.lt_of_lt_of_le g1 hS.1)).trans (hS.2.1 x g1 g2), hS.2.2⟩ hl hn (by omega) (by omega)
    · have h : W p (Gl G) e R S m args below meth cd H1 locs (cells + 1) (slots + fN ci) (MQ below (QC G Q) args S (mMc y) (mMs y) (AA G)) (F0 m (pc + 3) lsr (tr G (.ref n) :: st.map (tr G))) := h
      rw [tr_ref (Nat.le_trans (by decide) hM.2.1 : 2 ≤ n), ht] at h
      exact h
    · rw [hsh, ht]
      refine (u_born (fY ci) X.word (fT_ws ci hlt) hKn hkC e1 (fT_ty ci hlt)).to fun k hk => ?_
      rw [dflt_ok (G := G) (fKd_ok ci hlt k hk)]
      show _ = tr G (fv (fY ci k) (clr I n 0 n k) (clr P n 0 n k))
      rw [show clr I n 0 n k = 0 from if_pos rfl, show clr P n 0 n k = 0 from if_pos rfl]
  · exact h.elim
theorem new_arr {S : State} {H H1 : Heap} {g N : Nat} {cA : ClassId} (hM : Mat G S H n sh I L P) (e1 : H1[H.size]? = some (arrV cA N (fun _ => tr G (ev g 0 0 0)))) (z1 : H1.size = H.size + 1) (o1 : ∀ q : Nat, q < H.size → H1[q]? = H[q]?) (h1 : 100 ≤ g) (h2 : g ≤ 105) (hA : ARO S cA g) :
    Mat G S H1 (n + 1) (upS sh n (g, N)) (clr I n 0) (clr L n 0) (clr P n 0) := by
  have hsh : upS sh n (g, N) n = (g, N) := if_pos rfl
  refine hM.new z1 o1 (Or.inr ⟨by rw [hsh]; exact h1, by rw [hsh]; exact h2, cA, ?_, by rw [hsh]; exact hA⟩)
  rw [hsh, hM.top, e1]
  refine congrArg some (arrV_congr fun j _ => ?_)
  rw [show clr I n 0 n j = 0 from if_pos rfl, show clr P n 0 n j = 0 from if_pos rfl, show clr L n 0 n j = 0 from if_pos rfl]
theorem sd_newarray {t : ArrayType} (hd : decode (mBy y) pc = .ok (.newarray t, len)) (h : LI G y d Q pc (.newarray t) len ls st c s n sh I L P) : WP G y d Q pc ls st c s n sh I L P := by
  obtain ⟨rfl, h⟩ := lift_if h
  split at h
  · rename_i g hg
    have h : (match (generalizing := false) st with | .int j :: r => ¬ j < 0 ∧ j.toNatClampNeg ≤ 1000 ∧ 1 ≤ c ∧ j.toNatClampNeg ≤ s ∧ WP G y d Q (pc + 2) ls (.ref n :: r) (c - 1) (s - j.toNatClampNeg) (n + 1) (upS sh n (g, j.toNatClampNeg)) (clr I n 0) (clr L n 0) (clr P n 0) | _ => False) := h
    split at h
    · rename_i j r _ _
      obtain ⟨h1, h2, h3, h4, h⟩ := h
      intro p e S m args below meth cd R H locs cells slots lsr X hM hS hl hn hc hs
      obtain ⟨hword, hdef, hty, g1, g2, g3⟩ : Cond.arrayClass (newarray.typeOf t) ∈ tblG ∧ defaultValue (newarray.typeOf t) = tr G (ev g 0 0 0) ∧ newarray.typeOf t = aty g ∧ 100 ≤ g ∧ g ≤ 105 ∧ componentBytes (newarray.typeOf t) ≤ 8 := by
        cases t <;> simp only [aTg] at hg <;> cases hg
        · exact ⟨gw_achar, rfl, rfl, by decide, by decide, by decide⟩
        · exact ⟨gw_aint, rfl, rfl, by decide, by decide, by decide⟩
        · exact ⟨gw_along, rfl, rfl, by decide, by decide, by decide⟩
      refine va_newaK X.1 X.2.1 (X.word _ hword) rfl hd rfl h1 rfl (Nat.le_trans (Nat.mul_le_mul h2 g3) (by decide)) (by rw [X.cells]; omega) (by rw [X.slots]; omega) rfl fun H1 cA e1 z1 o1 hAr hNm => ?_
      rw [hdef] at e1
      have hAO : ARO S cA g := by
        rw [hty] at hAr hNm
        refine ⟨hAr, ?_⟩
        cases t <;> simp only [aTg] at hg <;> cases hg <;> exact hNm
      have h := h p e S m args below meth cd R H1 locs (cells + 1) (slots + j.toNatClampNeg) lsr X (new_arr hM e1 z1 o1 g1 g2 hAO) ⟨Nat.le_trans hS.1 (by omega), fun x g1 g2 => (o1 x (Nat.lt_of_lt_of_le g1 hS.1)).trans (hS.2.1 x g1 g2), hS.2.2⟩ hl hn (by omega) (by omega)
      have h : W p (Gl G) e R S m args below meth cd H1 locs (cells + 1) (slots + j.toNatClampNeg) (MQ below (QC G Q) args S (mMc y) (mMs y) (AA G)) (F0 m (pc + 2) lsr (tr G (.ref n) :: r.map (tr G))) := h
      rw [tr_ref (Nat.le_trans (by decide) hM.2.1 : 2 ≤ n), hM.top] at h
      exact h
    · exact h.elim
  · exact h.elim
theorem sd_anewarray {idx : Nat} (hd : decode (mBy y) pc = .ok (.anewarray idx, len)) (h : LI G y d Q pc (.anewarray idx) len ls st c s n sh I L P) : WP G y d Q pc ls st c s n sh I L P := by
  obtain ⟨rfl, h⟩ := lift_if h
  split at h
  · rename_i hci
    have h : (match (generalizing := false) st with | .int j :: r => ¬ j < 0 ∧ j.toNatClampNeg ≤ 1000 ∧ 1 ≤ c ∧ j.toNatClampNeg ≤ s ∧ WP G y d Q (pc + 3) ls (.ref n :: r) (c - 1) (s - j.toNatClampNeg) (n + 1) (upS sh n (104, j.toNatClampNeg)) (clr I n 0) (clr L n 0) (clr P n 0) | _ => False) := h
    split at h
    · rename_i j r _ _
      obtain ⟨h1, h2, h3, h4, h⟩ := h
      obtain ⟨hw, -⟩ := gkLC_ok _ (lk3_ok hci)
      intro p e S m args below meth cd R H locs cells slots lsr X hM hS hl hn hc hs
      refine W.anew X.1 X.2.1 (C := "GeeseKeys$Goose") X.own (X.word _ hw) (va_AO.use X.wk.2.2.1) rfl hd rfl h1 (Nat.le_trans (Nat.mul_le_mul_right 4 h2) (by decide)) (by rw [X.cells]; omega) (by rw [X.slots]; omega) fun cA kA comp f1 f2 f3 f4 => ?_
      have z1 : (H.push ({ cls := cA, slots := Array.replicate j.toNatClampNeg .null, vm := .none } : Cell)).size = H.size + 1 := by rw [Array.size_push]
      have e1 : (H.push ({ cls := cA, slots := Array.replicate j.toNatClampNeg .null, vm := .none } : Cell))[H.size]? = some (arrV cA j.toNatClampNeg (fun _ => tr G (ev 104 0 0 0))) := by rw [Array.getElem?_push_size, ← arrV_new]; rfl
      have o1 : ∀ q : Nat, q < H.size → (H.push ({ cls := cA, slots := Array.replicate j.toNatClampNeg .null, vm := .none } : Cell))[q]? = H[q]? := fun q hq => by rw [Array.getElem?_push, if_neg (Nat.ne_of_lt hq)]
      generalize H.push ({ cls := cA, slots := Array.replicate j.toNatClampNeg .null, vm := .none } : Cell) = H1 at z1 e1 o1
      have hAO : ARO S cA 104 := ⟨fun N z => ⟨(fun k h => by cases h), kA, f2, comp, f3⟩, kA, comp, f2, f3, f4, f1⟩
      have h := h p e S m args below meth cd R H1 locs (cells + 1) (slots + j.toNatClampNeg) lsr X (new_arr hM e1 z1 o1 (by decide) (by decide) hAO) ⟨Nat.le_trans hS.1 (by omega), fun x g1 g2 => (o1 x (Nat.lt_of_lt_of_le g1 hS.1)).trans (hS.2.1 x g1 g2), hS.2.2⟩ hl hn (by omega) (by omega)
      have h : W p (Gl G) e R S m args below meth cd H1 locs (cells + 1) (slots + j.toNatClampNeg) (MQ below (QC G Q) args S (mMc y) (mMs y) (AA G)) (F0 m (pc + 3) lsr (tr G (.ref n) :: r.map (tr G))) := h
      rw [tr_ref (Nat.le_trans (by decide) hM.2.1 : 2 ≤ n), hM.top] at h
      exact h
    · exact h.elim
  · rename_i hci
    have h : (match (generalizing := false) st with | .int j :: r => ¬ j < 0 ∧ j.toNatClampNeg ≤ 1000 ∧ 1 ≤ c ∧ j.toNatClampNeg ≤ s ∧ WP G y d Q (pc + 3) ls (.ref n :: r) (c - 1) (s - j.toNatClampNeg) (n + 1) (upS sh n (105, j.toNatClampNeg)) (clr I n 0) (clr L n 0) (clr P n 0) | _ => False) := h
    split at h
    · rename_i j r _ _
      obtain ⟨h1, h2, h3, h4, h⟩ := h
      obtain ⟨hw, -⟩ := gkLC_ok _ (lk3_ok hci)
      intro p e S m args below meth cd R H locs cells slots lsr X hM hS hl hn hc hs
      refine W.anew X.1 X.2.1 (C := "GeeseKeys$Tape") X.own (X.word _ hw) (va_AO.use X.wk.2.2.2.1) rfl hd rfl h1 (Nat.le_trans (Nat.mul_le_mul_right 4 h2) (by decide)) (by rw [X.cells]; omega) (by rw [X.slots]; omega) fun cA kA comp f1 f2 f3 f4 => ?_
      have z1 : (H.push ({ cls := cA, slots := Array.replicate j.toNatClampNeg .null, vm := .none } : Cell)).size = H.size + 1 := by rw [Array.size_push]
      have e1 : (H.push ({ cls := cA, slots := Array.replicate j.toNatClampNeg .null, vm := .none } : Cell))[H.size]? = some (arrV cA j.toNatClampNeg (fun _ => tr G (ev 105 0 0 0))) := by rw [Array.getElem?_push_size, ← arrV_new]; rfl
      have o1 : ∀ q : Nat, q < H.size → (H.push ({ cls := cA, slots := Array.replicate j.toNatClampNeg .null, vm := .none } : Cell))[q]? = H[q]? := fun q hq => by rw [Array.getElem?_push, if_neg (Nat.ne_of_lt hq)]
      generalize H.push ({ cls := cA, slots := Array.replicate j.toNatClampNeg .null, vm := .none } : Cell) = H1 at z1 e1 o1
      have hAO : ARO S cA 105 := ⟨fun N z => ⟨(fun k h => by cases h), kA, f2, comp, f3⟩, kA, comp, f2, f3, f4, f1⟩
      have h := h p e S m args below meth cd R H1 locs (cells + 1) (slots + j.toNatClampNeg) lsr X (new_arr hM e1 z1 o1 (by decide) (by decide) hAO) ⟨Nat.le_trans hS.1 (by omega), fun x g1 g2 => (o1 x (Nat.lt_of_lt_of_le g1 hS.1)).trans (hS.2.1 x g1 g2), hS.2.2⟩ hl hn (by omega) (by omega)
      have h : W p (Gl G) e R S m args below meth cd H1 locs (cells + 1) (slots + j.toNatClampNeg) (MQ below (QC G Q) args S (mMc y) (mMs y) (AA G)) (F0 m (pc + 3) lsr (tr G (.ref n) :: r.map (tr G))) := h
      rw [tr_ref (Nat.le_trans (by decide) hM.2.1 : 2 ≤ n), hM.top] at h
      exact h
    · exact h.elim
  · exact h.elim
theorem ofInt_eq {x : Int32} {a : Int} (h1 : -2147483648 ≤ a) (h2 : a < 2147483648) : x = Int32.ofInt a ↔ x.toInt = a := by
  constructor
  · intro h
    rw [h]
    exact Int32.toInt_ofInt_of_le h1 h2
  · intro h
    rw [← h, Int32.ofInt_toInt]
theorem swi_lookup {x : Int32} {k : Nat → Prop} {df : Int} : ∀ (ps : List (Int × Int)), (∀ o ∈ ps, -2147483648 ≤ o.1 ∧ o.1 < 2147483648) → swi x (ps.map (fun o => (Int32.ofInt o.1, tgt pc o.2))) (tgt pc df) k → k (tgt pc (Op.lookupswitch.offset ps df x.toInt))
  | [], _, h => h
  | (a, o) :: r, hb, h => by
    obtain ⟨h1, h2⟩ : (x = Int32.ofInt a → k (tgt pc o)) ∧ (¬ x = Int32.ofInt a → swi x (r.map (fun (o : Int × Int) => (Int32.ofInt o.1, tgt pc o.2))) (tgt pc df) k) := h
    rw [Op.lookupswitch.offset_cons]
    have hb0 := hb _ List.mem_cons_self
    have e := ofInt_eq (x := x) hb0.1 hb0.2
    by_cases hx : x.toInt = a
    · rw [if_pos hx.symm]
      exact h1 (e.mpr hx)
    · rw [if_neg (fun q => hx q.symm)]
      exact swi_lookup r (fun o ho => hb o (List.mem_cons_of_mem _ ho)) (h2 (fun q => hx (e.mp q)))
theorem off_lookup {x df : Int} : ∀ (ps : List (Int × Int)), (Op.lookupswitch.offset ps df x = df) ∨ ∃ o ∈ ps, Op.lookupswitch.offset ps df x = o.2
  | [] => Or.inl rfl
  | (a, o) :: r => by
    rw [Op.lookupswitch.offset_cons]
    split
    · exact Or.inr ⟨_, List.mem_cons_self, rfl⟩
    · rcases off_lookup (x := x) (df := df) r with h | ⟨z, h1, h2⟩
      · exact Or.inl h
      · exact Or.inr ⟨z, List.mem_cons_of_mem _ h1, h2⟩
theorem swi_table {x : Int32} {lo : Int} {t : Nat → Nat} {dt : Nat} {k : Nat → Prop} : ∀ (m i : Nat), -2147483648 ≤ lo → lo + (i : Int) + m ≤ 2147483648 → swi x ((List.range' i m).map (fun (j : Nat) => (Int32.ofInt (lo + (j : Int)), t j))) dt k →
    (∀ j : Nat, i ≤ j → j < i + m → x.toInt = lo + (j : Int) → k (t j)) ∧ ((x.toInt < lo + (i : Int) ∨ lo + (i : Int) + m ≤ x.toInt) → k dt)
  | 0, i, _, _, h => ⟨fun j h1 h2 => by omega, fun _ => h⟩
  | m + 1, i, b1, b2, h => by
    obtain ⟨h1, h2⟩ : (x = Int32.ofInt (lo + (i : Int)) → k (t i)) ∧ (¬ x = Int32.ofInt (lo + (i : Int)) → swi x ((List.range' (i + 1) m).map (fun (j : Nat) => (Int32.ofInt (lo + (j : Int)), t j))) dt k) := h
    have e := ofInt_eq (x := x) (a := lo + (i : Int)) (by omega) (by omega)
    by_cases hx : x.toInt = lo + (i : Int)
    · refine ⟨fun j q1 q2 q3 => ?_, fun q => by omega⟩
      have : j = i := by omega
      subst this
      exact h1 (e.mpr hx)
    · obtain ⟨a1, a2⟩ := swi_table m (i + 1) b1 (by omega) (h2 (fun q => hx (e.mp q)))
      refine ⟨fun j q1 q2 q3 => ?_, fun q => a2 (by omega)⟩
      rcases Nat.lt_or_ge i j with q | q
      · exact a1 j (by omega) (by omega) q3
      · have : j = i := by omega
        subst this
        exact absurd q3 hx
theorem sd_lookupswitch {df : Int} {ps : Array (Int × Int)} (hd : decode (mBy y) pc = .ok (.lookupswitch df ps, len)) (h : LI G y d Q pc (.lookupswitch df ps) len ls st c s n sh I L P) : WP G y d Q pc ls st c s n sh I L P := by
  obtain ⟨⟨h1, h2, h3⟩, h⟩ := lift_if h
  have h : (match (generalizing := false) st with | .int x :: r => swi x (ps.toList.map (fun o => (Int32.ofInt o.1, tgt pc o.2))) (tgt pc df) (fun t => WP G y d Q t ls r c s n sh I L P) | _ => False) := h
  split at h
  · rename_i x r _ _
    have hall : ∀ o ∈ ps.toList, 0 ≤ (pc : Int) + o.2 ∧ -2147483648 ≤ o.1 ∧ o.1 < 2147483648 := fun o ho => by
      have := List.all_eq_true.mp h2 o ho
      simp only [Bool.and_eq_true, decide_eq_true_eq] at this
      exact ⟨this.1.1, this.1.2, this.2⟩
    have h := swi_lookup ps.toList (fun o ho => (hall o ho).2) h
    intro p e S m args below meth cd R H locs cells slots lsr X hM hS hl hn hc hs
    refine lv_lookup X.1 X.2.1 hd h3 rfl (Int.toNat_of_nonneg ?_).symm (h p e S m args below meth cd R H locs cells slots lsr X hM hS hl hn hc hs)
    rcases off_lookup (x := x.toInt) (df := df) ps.toList with q | ⟨o, q1, q2⟩
    · rw [q]; exact h1
    · rw [q2]; exact (hall o q1).1
  · exact h.elim
theorem sd_tableswitch {df lo hi : Int} {offs : Array Int} (hd : decode (mBy y) pc = .ok (.tableswitch df lo hi offs, len)) (h : LI G y d Q pc (.tableswitch df lo hi offs) len ls st c s n sh I L P) : WP G y d Q pc ls st c s n sh I L P := by
  obtain ⟨⟨h1, h2, h3, h4, h5⟩, h⟩ := lift_if h
  have h : (match (generalizing := false) st with | .int x :: r => swi x ((List.range offs.size).map (fun (j : Nat) => (Int32.ofInt (lo + (j : Int)), tgt pc (offs.getD j 0)))) (tgt pc df) (fun t => WP G y d Q t ls r c s n sh I L P) | _ => False) := h
  split at h
  · rename_i x r _ _
    rw [List.range_eq_range'] at h
    obtain ⟨a1, a2⟩ := swi_table offs.size 0 h3 (by omega) h
    intro p e S m args below meth cd R H locs cells slots lsr X hM hS hl hn hc hs
    by_cases hx : x.toInt < lo ∨ hi < x.toInt
    · exact lv_tableOut X.1 X.2.1 hd hx (Int.toNat_of_nonneg h1).symm (a2 (by omega) p e S m args below meth cd R H locs cells slots lsr X hM hS hl hn hc hs)
    · have hj : (x.toInt - lo).toNat < offs.size := by omega
      have ho : offs[(x.toInt - lo).toNat]? = some (offs.getD (x.toInt - lo).toNat 0) := by
        rw [Array.getD_eq_getD_getElem?, Array.getElem?_eq_getElem hj]
        rfl
      have hm : offs.getD (x.toInt - lo).toNat 0 ∈ offs.toList := by
        rw [Array.getD_eq_getD_getElem?, Array.getElem?_eq_getElem hj]
        exact Array.getElem_mem_toList hj
      have hz := List.all_eq_true.mp h2 _ hm
      simp only [decide_eq_true_eq] at hz
      exact lv_tableIn X.1 X.2.1 hd (by omega) (by omega) ho (Int.toNat_of_nonneg hz).symm (a1 (x.toInt - lo).toNat (by omega) (by omega) (by omega) p e S m args below meth cd R H locs cells slots lsr X hM hS hl hn hc hs)
  · exact h.elim
theorem sd_ireturn (hd : decode (mBy y) pc = .ok (.ireturn, len)) (h : LI G y d Q pc (.ireturn) len ls st c s n sh I L P) : WP G y d Q pc ls st c s n sh I L P := by
  obtain ⟨⟨rfl, hr⟩, h⟩ := lift_if h
  have h : (match (generalizing := false) st with | .int x :: [] => nck (rKd (mRt y)) x ∧ Q (some (.int x)) n sh I L P | _ => False) := h
  split at h
  · rename_i x _ _
    obtain ⟨h1, h2⟩ := h
    intro p e S m args below meth cd R H locs cells slots lsr X hM hS hl hn hc hs
    obtain ⟨ty, hty, hnar⟩ : ∃ ty, mRt y = some ty ∧ narrow ty (.int x) = .int x := by
      generalize mRt y = rt at hr h1
      cases rt with
      | none => cases hr
      | some ty =>
        cases ty <;> first | cases hr | skip
        · exact ⟨_, rfl, h1⟩
        · exact ⟨_, rfl, h1⟩
        · exact ⟨_, rfl, rfl⟩
        · have h1 : x = 0 ∨ x = 1 := h1
          rcases h1 with rfl | rfl <;> exact ⟨_, rfl, rfl⟩
    refine W.widen (k := mMc y) (n := mMs y) (by omega) (by omega) ?_
    exact W.zret X.1 X.2.1 (by rw [X.ret]; exact hty) hnar (fun t ht hW => ⟨⟨some (.int x), n, sh, I, L, P, rfl, h2, by rw [ht]; exact hM.moved hW.alike⟩, hS.F ht⟩) hS.2.2 hd X.locks
  · exact h.elim
theorem sd_lreturn (hd : decode (mBy y) pc = .ok (.lreturn, len)) (h : LI G y d Q pc (.lreturn) len ls st c s n sh I L P) : WP G y d Q pc ls st c s n sh I L P := by
  obtain ⟨⟨rfl, hr⟩, h⟩ := lift_if h
  have h : (match (generalizing := false) st with | .long x :: [] => Q (some (.long x)) n sh I L P | _ => False) := h
  split at h
  · rename_i x _ _
    intro p e S m args below meth cd R H locs cells slots lsr X hM hS hl hn hc hs
    refine W.widen (k := mMc y) (n := mMs y) (by omega) (by omega) ?_
    exact W.lret X.1 X.2.1 (by rw [X.ret]; exact hr) (fun t ht hW => ⟨⟨some (.long x), n, sh, I, L, P, rfl, h, by rw [ht]; exact hM.moved hW.alike⟩, hS.F ht⟩) hS.2.2 hd X.locks
  · exact h.elim
theorem sd_return_ (hd : decode (mBy y) pc = .ok (.return_, len)) (h : LI G y d Q pc (.return_) len ls st c s n sh I L P) : WP G y d Q pc ls st c s n sh I L P := by
  obtain ⟨⟨rfl, hr⟩, h⟩ := lift_if h
  have h : (match (generalizing := false) st with | [] => Q none n sh I L P | _ => False) := h
  split at h
  · intro p e S m args below meth cd R H locs cells slots lsr X hM hS hl hn hc hs
    refine W.widen (k := mMc y) (n := mMs y) (by omega) (by omega) ?_
    exact W.vret X.1 X.2.1 (by rw [X.ret]; exact hr) (fun t ht hW => ⟨⟨none, n, sh, I, L, P, rfl, h, by rw [ht]; exact hM.moved hW.alike⟩, hS.F ht⟩) hS.2.2 hd X.locks
  · exact h.elim
theorem sd_areturn (hd : decode (mBy y) pc = .ok (.areturn, len)) (h : LI G y d Q pc (.areturn) len ls st c s n sh I L P) : WP G y d Q pc ls st c s n sh I L P := by
  obtain ⟨⟨rfl, hr⟩, h⟩ := lift_if h
  have h : (match (generalizing := false) st with | .ref x :: [] => ¬ neq x 1 ∧ Q (some (.ref x)) n sh I L P | _ => False) := h
  split at h
  · rename_i x _ _
    obtain ⟨h1, h2⟩ := h
    intro p e S m args below meth cd R H locs cells slots lsr X hM hS hl hn hc hs
    obtain ⟨ty, hty, hk⟩ : ∃ ty, mRt y = some ty ∧ ((∃ n, ty = .object n) ∨ ∃ t, ty = .array t) := by
      generalize mRt y = rt at hr
      cases rt with
      | none => cases hr
      | some ty =>
        cases ty <;> first | cases hr | skip
        · exact ⟨_, rfl, Or.inl ⟨_, rfl⟩⟩
        · exact ⟨_, rfl, Or.inr ⟨_, rfl⟩⟩
    refine W.widen (k := mMc y) (n := mMs y) (by omega) (by omega) ?_
    exact W.aret X.1 X.2.1 (by rw [X.ret]; exact hty) hk (tr_ref' X.gf x) (fun t ht hW => ⟨⟨some (.ref x), n, sh, I, L, P, rfl, h2, by rw [ht]; exact hM.moved hW.alike⟩, hS.F ht⟩) hS.2.2 hd X.locks
  · exact h.elim
end SR
