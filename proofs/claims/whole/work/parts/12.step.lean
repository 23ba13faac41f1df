/-! Constructors; one instruction; many; a method -/
section SE
variable {G : GE} {y d pc len : Nat} {Q : TQ} {ls : List (Option Value)} {st : List Value} {c s n : Nat} {sh : TS} {I : TI} {L : TL} {P : TP}
theorem wp_init {idx a q : Nat} {as r : List Value} (hd : decode (mBy y) pc = .ok (.invokespecial idx, 3)) (ha : a < lawY) (hki : mKi a = 2) (hlink : lk3 gkLM (mCi y) idx = some a ∨ lk3 gkLN (mCi y) idx = some a) (hp : popN (mAr a) [] st = some (.ref q :: as, r))
    (h : 0 < d ∧ r.length ≤ 4 ∧ mMc a ≤ c ∧ mMs a ≤ s ∧ nle 2 q ∧ Cl G (d - 1) a (.ref q :: as) n sh I L P (fun v n' sh' I' L' P' => WP G y d Q (pc + 3) ls (rpush v r) (c - mMc a) (s - mMs a) n' sh' I' L' P')) : WP G y d Q pc ls st c s n sh I L P := by
  obtain ⟨hp1, hp2⟩ := popN_eq _ _ _ _ _ hp
  obtain ⟨h0, hr4, hmc, hms, hq2, Q0, hQ0, hMet⟩ := h
  unfold nle at hq2
  intro p e S m args below meth cd R H locs cells slots lsr X hM hS hl hn hc hs
  obtain ⟨o1, o2, o3, o4, o5, o6, o7, o8, -, -, o9⟩ := mOk ha
  obtain ⟨o9, o10, o11⟩ := o9 hki
  have o10 : (mNm a).name = "<init>" := o10
  have o6 : (parseMethodDescriptor (mNm a).desc).map (fun d => d.parameters.length) = some (mAr a - (if mKi a = 1 then 0 else 1)) := o6
  rw [hki, if_neg (by decide)] at o6
  have hst : st.map (tr G) = (as.map (tr G)).reverse ++ .ref (adr G q) :: r.map (tr G) := by
    have hp1 : (Value.ref q :: as).reverse ++ r = st := hp1
    rw [← hp1, ← tr_ref hq2]
    simp
  rw [hst]
  have hlen : as.length = mAr a - 1 := by
    have : as.length + 1 = mAr a := by simpa using hp2
    omega
  have hpre : PreS S H (va_Pc ((Value.ref q :: as).map (tr G)) (fun U => WK G U ∧ Mat G U U.heap n sh I L P ∧ GS G ≤ U.heap.size)) (.ref (adr G q) :: as.map (tr G)) := ⟨call_blind, fun U hU hW => ⟨by rw [← tr_ref hq2]; rfl, call_pre X.wk hM hS hU hW⟩⟩
  have hW8 : 2 * (F0 m pc lsr ((as.map (tr G)).reverse ++ .ref (adr G q) :: r.map (tr G))).monitorRoom + ((r.map (tr G)).map fun v => v.category).sum ≤ 8 := Nat.le_trans (Nat.add_le_add_left (cat_sum _) _) (by rw [List.length_map]; show 2 * 0 + _ ≤ 8; omega)
  have hsz : (F0 m pc lsr ((as.map (tr G)).reverse ++ .ref (adr G q) :: r.map (tr G))).locals.size = mML y := by show lsr.size = _; rw [hl.1]; exact hn
  have o11 : mRt a = none := o11
  have hw : wsOf a = Cond.code (mNm a) (mBy a) (mML a) none :: tblG := by unfold wsOf; rw [o11]
  rcases hlink with hk | hk
  · have hlm : Cond.methodLink (cNm (mCi y)) idx (mNm a) ∈ tblG := by rw [← gkMN_lt ha]; exact lkM_ok hk
    exact wp_after X hS hl hn hc hs hmc hms (va_runI (As := as.map (tr G)) (rest := r.map (tr G)) (b := adr G q) ⟨X.1, X.2.1, X.ml, X.own, X.word⟩ hMet (cwI (mAr a - 1) X.word (goodG (wsG ha)) hw rfl rfl (X.word _ o2) (X.word _ hlm) (X.word _ o9) o10 ⟨o5.1, o5.2, o6⟩ (room_ok h0 X.fr X.lo ha)) hpre rfl (by rw [List.length_map]; exact hlen) hsz rfl hW8 hd ⟨by rw [X.cells]; omega, by rw [X.slots]; omega⟩) (fun v n' sh' I' L' P' hq => hQ0 _ _ _ _ _ _ hq)
  · have hz : va_Nw (.methodLinkNest (cNm (mCi y)) idx (mNm a) "GeeseKeys") S := X.wk.2.1 (mCi y, idx, a) (lk3_ok hk)
    exact wp_after X hS hl hn hc hs hmc hms (va_runIN (As := as.map (tr G)) (rest := r.map (tr G)) (b := adr G q) (host := "GeeseKeys") ⟨X.1, X.2.1, X.ml, X.own, X.word⟩ hMet ⟨va_cnB (mAr a - 1) X.word (goodG (wsG ha)) hw rfl rfl hz (X.word _ o2) ⟨o5.1, o5.2, o6⟩ (room_ok h0 X.fr X.lo ha), o10, X.word _ o9⟩ hpre rfl (by rw [List.length_map]; exact hlen) hsz rfl hW8 hd ⟨by rw [X.cells]; omega, by rw [X.slots]; omega⟩) (fun v n' sh' I' L' P' hq => hQ0 _ _ _ _ _ _ hq)
theorem sd_invokespecial {idx : Nat} (hd : decode (mBy y) pc = .ok (.invokespecial idx, len)) (h : LI G y d Q pc (.invokespecial idx) len ls st c s n sh I L P) : WP G y d Q pc ls st c s n sh I L P := by
  obtain ⟨rfl, h⟩ := lift_if h
  split at h
  · rename_i a hk
    split at h
    · rename_i hc
      obtain ⟨ha, hki⟩ := hc
      have h : (match (generalizing := false) popN (mAr a) [] st with | some (.ref q :: as, r) => 0 < d ∧ r.length ≤ 4 ∧ mMc a ≤ c ∧ mMs a ≤ s ∧ nle 2 q ∧ Cl G (d - 1) a (.ref q :: as) n sh I L P (fun v n' sh' I' L' P' => WP G y d Q (pc + 3) ls (rpush v r) (c - mMc a) (s - mMs a) n' sh' I' L' P') | _ => False) := h
      split at h
      · rename_i q as r hp
        exact wp_init hd ha hki (Or.inl hk) hp h
      · exact h.elim
    · split at h
      · rename_i ha
        subst ha
        have h : (match (generalizing := false) st with | .ref q :: r => 0 < d ∧ r.length ≤ 4 ∧ nle 2 q ∧ WP G y d Q (pc + 3) ls r c s n sh I L P | _ => False) := h
        split at h
        · rename_i q r _ _
          obtain ⟨h0, h4, h2, h⟩ := h
          unfold nle at h2
          intro p e S m args below meth cd R H locs cells slots lsr X hM hS hl hn hc hs
          show W p (Gl G) e R S m args below meth cd H locs cells slots _ (F0 m pc lsr (tr G (.ref q) :: r.map (tr G)))
          rw [tr_ref h2]
          have hlo := X.lo
          have hcs := cat_sum (r.map (tr G))
          rw [List.length_map] at hcs
          exact W.objInit X.1 X.2.1 X.own (X.word _ (lkM_ok hk)) (X.word _ gw_oi) (X.word _ gw_oc) rfl (by show lsr.size = _; rw [hl.1, X.ml]; exact hn) rfl hd (Nat.le_trans h0 X.fr) (by show 2 * 0 + _ + 12 ≤ _; omega) (h p e S m args below meth cd R H locs cells slots lsr X hM hS hl hn hc hs)
        · exact h.elim
      · exact h.elim
  · split at h
    · rename_i a hk
      obtain ⟨⟨ha, hki⟩, h⟩ := lift_if h
      have h : (match (generalizing := false) popN (mAr a) [] st with | some (.ref q :: as, r) => 0 < d ∧ r.length ≤ 4 ∧ mMc a ≤ c ∧ mMs a ≤ s ∧ nle 2 q ∧ Cl G (d - 1) a (.ref q :: as) n sh I L P (fun v n' sh' I' L' P' => WP G y d Q (pc + 3) ls (rpush v r) (c - mMc a) (s - mMs a) n' sh' I' L' P') | _ => False) := h
      split at h
      · rename_i q as r hp
        exact wp_init hd ha hki (Or.inr hk) hp h
      · exact h.elim
    · exact h.elim
/-- one instruction -/
theorem WP_step (h : lift (Cl G (d - 1)) d (WP G y d Q) (WP G y d Q) Q (cod y pc) ls st c s n sh I L P) : WP G y d Q pc ls st c s n sh I L P := by
  unfold cod at h
  split at h
  · rename_i i len hd
    have h : LI G y d Q pc i len ls st c s n sh I L P := h
    cases i
    case aload_n => exact sd_aload_n hd h
    case aload => exact sd_aload hd h
    case iload_n => exact sd_iload_n hd h
    case iload => exact sd_iload hd h
    case lload_n => exact sd_lload_n hd h
    case lload => exact sd_lload hd h
    case istore_n => exact sd_istore_n hd h
    case istore => exact sd_istore hd h
    case lstore_n => exact sd_lstore_n hd h
    case lstore => exact sd_lstore hd h
    case astore_n => exact sd_astore_n hd h
    case astore => exact sd_astore hd h
    case iinc => exact sd_iinc hd h
    case iadd => exact sd_iadd hd h
    case isub => exact sd_isub hd h
    case imul => exact sd_imul hd h
    case idiv => exact sd_idiv hd h
    case irem => exact sd_irem hd h
    case iand => exact sd_iand hd h
    case ior => exact sd_ior hd h
    case ixor => exact sd_ixor hd h
    case ishl => exact sd_ishl hd h
    case ishr => exact sd_ishr hd h
    case iushr => exact sd_iushr hd h
    case ineg => exact sd_ineg hd h
    case i2l => exact sd_i2l hd h
    case i2b => exact sd_i2b hd h
    case i2s => exact sd_i2s hd h
    case i2c => exact sd_i2c hd h
    case l2i => exact sd_l2i hd h
    case ladd => exact sd_ladd hd h
    case land => exact sd_land hd h
    case lor => exact sd_lor hd h
    case ldiv => exact sd_ldiv hd h
    case lrem => exact sd_lrem hd h
    case lshl => exact sd_lshl hd h
    case lcmp => exact sd_lcmp hd h
    case dup => exact sd_dup hd h
    case dup2 => exact sd_dup2 hd h
    case pop => exact sd_pop hd h
    case iconst => exact sd_iconst hd h
    case bipush => exact sd_bipush hd h
    case sipush => exact sd_sipush hd h
    case lconst => exact sd_lconst hd h
    case aconst_null => exact sd_aconst_null hd h
    case goto => exact sd_goto hd h
    case ifCond => exact sd_ifCond hd h
    case if_icmp => exact sd_if_icmp hd h
    case ifnull => exact sd_ifnull hd h
    case ifnonnull => exact sd_ifnonnull hd h
    case getfield => exact sd_getfield hd h
    case putfield => exact sd_putfield hd h
    case iaload => exact sd_iaload hd h
    case laload => exact sd_laload hd h
    case caload => exact sd_caload hd h
    case baload => exact sd_baload hd h
    case aaload => exact sd_aaload hd h
    case iastore => exact sd_iastore hd h
    case lastore => exact sd_lastore hd h
    case castore => exact sd_castore hd h
    case aastore => exact sd_aastore hd h
    case arraylength => exact sd_arraylength hd h
    case ldc => exact sd_ldc hd h
    case ldc_w => exact sd_ldc_w hd h
    case ldc2_w => exact sd_ldc2_w hd h
    case getstatic => exact sd_getstatic hd h
    case new => exact sd_new hd h
    case newarray => exact sd_newarray hd h
    case anewarray => exact sd_anewarray hd h
    case lookupswitch => exact sd_lookupswitch hd h
    case tableswitch => exact sd_tableswitch hd h
    case ireturn => exact sd_ireturn hd h
    case lreturn => exact sd_lreturn hd h
    case return_ => exact sd_return_ hd h
    case areturn => exact sd_areturn hd h
    case invokevirtual => exact sd_invokevirtual hd h
    case invokestatic => exact sd_invokestatic hd h
    case invokespecial => exact sd_invokespecial hd h
    all_goals exact False.elim h
  · exact h.elim
end SE
/-! ### more is worth more -/
theorem bin_mono {f : Int32 → Int32 → Int32} {st : List Value} {k k' : List Value → Prop} (hk : ∀ st, k st → k' st) (h : bin f st k) : bin f st k' := by
  unfold bin at h ⊢
  split at h
  · exact hk _ h
  · exact h.elim
theorem bil_mono {f : Int64 → Int64 → Int64} {st : List Value} {k k' : List Value → Prop} (hk : ∀ st, k st → k' st) (h : bil f st k) : bil f st k' := by
  unfold bil at h ⊢
  split at h
  · exact hk _ h
  · exact h.elim
theorem una_mono {f : Int32 → Value} {st : List Value} {k k' : List Value → Prop} (hk : ∀ st, k st → k' st) (h : una f st k) : una f st k' := by
  unfold una at h ⊢
  split at h
  · exact hk _ h
  · exact h.elim
theorem cnd_mono {o : Jvm.ClassFile.Cond} {x z : Int32} {A A' B B' : Prop} (ha : A → A') (hb : B → B') (h : cnd o x z A B) : cnd o x z A' B' := by
  cases o <;> first | exact ⟨fun q => ha (h.1 q), fun q => hb (h.2 q)⟩ | exact ⟨fun q => hb (h.1 q), fun q => ha (h.2 q)⟩
theorem swi_mono {x : Int32} {dt : Nat} {k k' : Nat → Prop} (hk : ∀ t, k t → k' t) : ∀ (l : List (Int32 × Nat)), swi x l dt k → swi x l dt k'
  | [], h => hk _ h
  | (v, t) :: r, h => ⟨fun q => hk _ (h.1 q), fun q => swi_mono hk r (h.2 q)⟩
theorem stp_mono {C : TC} {d : Nat} {K K' W : TK} {Q : TQ}
    (hK : ∀ pc ls st c s n sh I L P, K pc ls st c s n sh I L P → K' pc ls st c s n sh I L P) {i : AI} {ls : List (Option Value)} {st : List Value} {c s n : Nat} {sh : TS} {I : TI} {L : TL} {P : TP}
    (h : stp C d K W Q i ls st c s n sh I L P) : stp C d K' W Q i ls st c s n sh I L P := by
  obtain ⟨nx, a, b, sw, op⟩ := i
  cases op with
  | inl v => exact hK _ _ _ _ _ _ _ _ _ _ h
  | inr op =>
    cases op
    case iadd =>
      unfold stp at h ⊢
      dsimp only at h ⊢
      exact bin_mono (fun _ q => hK _ _ _ _ _ _ _ _ _ _ q) h
    case isub =>
      unfold stp at h ⊢
      dsimp only at h ⊢
      exact bin_mono (fun _ q => hK _ _ _ _ _ _ _ _ _ _ q) h
    case imul =>
      unfold stp at h ⊢
      dsimp only at h ⊢
      exact bin_mono (fun _ q => hK _ _ _ _ _ _ _ _ _ _ q) h
    case iand =>
      unfold stp at h ⊢
      dsimp only at h ⊢
      exact bin_mono (fun _ q => hK _ _ _ _ _ _ _ _ _ _ q) h
    case ior =>
      unfold stp at h ⊢
      dsimp only at h ⊢
      exact bin_mono (fun _ q => hK _ _ _ _ _ _ _ _ _ _ q) h
    case ixor =>
      unfold stp at h ⊢
      dsimp only at h ⊢
      exact bin_mono (fun _ q => hK _ _ _ _ _ _ _ _ _ _ q) h
    case ishl =>
      unfold stp at h ⊢
      dsimp only at h ⊢
      exact bin_mono (fun _ q => hK _ _ _ _ _ _ _ _ _ _ q) h
    case ishr =>
      unfold stp at h ⊢
      dsimp only at h ⊢
      exact bin_mono (fun _ q => hK _ _ _ _ _ _ _ _ _ _ q) h
    case iushr =>
      unfold stp at h ⊢
      dsimp only at h ⊢
      exact bin_mono (fun _ q => hK _ _ _ _ _ _ _ _ _ _ q) h
    case ladd =>
      unfold stp at h ⊢
      dsimp only at h ⊢
      exact bil_mono (fun _ q => hK _ _ _ _ _ _ _ _ _ _ q) h
    case land =>
      unfold stp at h ⊢
      dsimp only at h ⊢
      exact bil_mono (fun _ q => hK _ _ _ _ _ _ _ _ _ _ q) h
    case lor =>
      unfold stp at h ⊢
      dsimp only at h ⊢
      exact bil_mono (fun _ q => hK _ _ _ _ _ _ _ _ _ _ q) h
    case ineg =>
      unfold stp at h ⊢
      dsimp only at h ⊢
      exact una_mono (fun _ q => hK _ _ _ _ _ _ _ _ _ _ q) h
    case i2l =>
      unfold stp at h ⊢
      dsimp only at h ⊢
      exact una_mono (fun _ q => hK _ _ _ _ _ _ _ _ _ _ q) h
    case i2b =>
      unfold stp at h ⊢
      dsimp only at h ⊢
      exact una_mono (fun _ q => hK _ _ _ _ _ _ _ _ _ _ q) h
    case i2s =>
      unfold stp at h ⊢
      dsimp only at h ⊢
      exact una_mono (fun _ q => hK _ _ _ _ _ _ _ _ _ _ q) h
    case i2c =>
      unfold stp at h ⊢
      dsimp only at h ⊢
      exact una_mono (fun _ q => hK _ _ _ _ _ _ _ _ _ _ q) h
    case goto => exact hK _ _ _ _ _ _ _ _ _ _ h
    case l2i =>
      unfold stp at h ⊢
      dsimp only at h ⊢
      split at h
      · exact hK _ _ _ _ _ _ _ _ _ _ h
      · exact h.elim
    case lshl =>
      unfold stp at h ⊢
      dsimp only at h ⊢
      split at h
      · exact hK _ _ _ _ _ _ _ _ _ _ h
      · exact h.elim
    case lcmp =>
      unfold stp at h ⊢
      dsimp only at h ⊢
      split at h
      · exact hK _ _ _ _ _ _ _ _ _ _ h
      · exact h.elim
    case dup2 =>
      unfold stp at h ⊢
      dsimp only at h ⊢
      split at h
      · exact hK _ _ _ _ _ _ _ _ _ _ h
      · exact h.elim
    case dup =>
      unfold stp at h ⊢
      dsimp only at h ⊢
      split at h
      · exact hK _ _ _ _ _ _ _ _ _ _ h
      · exact hK _ _ _ _ _ _ _ _ _ _ h
      · exact h.elim
    case pop =>
      unfold stp at h ⊢
      dsimp only at h ⊢
      split at h
      · exact hK _ _ _ _ _ _ _ _ _ _ h
      · exact hK _ _ _ _ _ _ _ _ _ _ h
      · exact h.elim
    case idiv =>
      unfold stp at h ⊢
      dsimp only at h ⊢
      split at h
      · exact ⟨h.1, hK _ _ _ _ _ _ _ _ _ _ h.2⟩
      · exact h.elim
    case irem =>
      unfold stp at h ⊢
      dsimp only at h ⊢
      split at h
      · exact ⟨h.1, hK _ _ _ _ _ _ _ _ _ _ h.2⟩
      · exact h.elim
    case ldiv =>
      unfold stp at h ⊢
      dsimp only at h ⊢
      split at h
      · exact ⟨h.1, hK _ _ _ _ _ _ _ _ _ _ h.2⟩
      · exact h.elim
    case lrem =>
      unfold stp at h ⊢
      dsimp only at h ⊢
      split at h
      · exact ⟨h.1, hK _ _ _ _ _ _ _ _ _ _ h.2⟩
      · exact h.elim
    case iload _ =>
      unfold stp at h ⊢
      dsimp only at h ⊢
      split at h
      · exact hK _ _ _ _ _ _ _ _ _ _ h
      · exact h.elim
    case lload _ =>
      unfold stp at h ⊢
      dsimp only at h ⊢
      split at h
      · exact hK _ _ _ _ _ _ _ _ _ _ h
      · exact h.elim
    case aload _ =>
      unfold stp at h ⊢
      dsimp only at h ⊢
      split at h
      · exact hK _ _ _ _ _ _ _ _ _ _ h
      · exact h.elim
    case istore _ =>
      unfold stp at h ⊢
      dsimp only at h ⊢
      split at h
      · exact hK _ _ _ _ _ _ _ _ _ _ h
      · exact h.elim
    case lstore _ =>
      unfold stp at h ⊢
      dsimp only at h ⊢
      split at h
      · exact hK _ _ _ _ _ _ _ _ _ _ h
      · exact h.elim
    case astore _ =>
      unfold stp at h ⊢
      dsimp only at h ⊢
      split at h
      · exact hK _ _ _ _ _ _ _ _ _ _ h
      · exact h.elim
    case iinc _ _ =>
      unfold stp at h ⊢
      dsimp only at h ⊢
      split at h
      · exact hK _ _ _ _ _ _ _ _ _ _ h
      · exact h.elim
    case ifCond o _ =>
      unfold stp at h ⊢
      dsimp only at h ⊢
      split at h
      · exact cnd_mono (fun q => hK _ _ _ _ _ _ _ _ _ _ q) (fun q => hK _ _ _ _ _ _ _ _ _ _ q) h
      · exact h.elim
    case if_icmp o _ =>
      unfold stp at h ⊢
      dsimp only at h ⊢
      split at h
      · exact cnd_mono (fun q => hK _ _ _ _ _ _ _ _ _ _ q) (fun q => hK _ _ _ _ _ _ _ _ _ _ q) h
      · exact h.elim
    case ifnull _ =>
      unfold stp at h ⊢
      dsimp only at h ⊢
      split at h
      · exact ⟨h.1, fun q => hK _ _ _ _ _ _ _ _ _ _ (h.2.1 q), fun q => hK _ _ _ _ _ _ _ _ _ _ (h.2.2 q)⟩
      · exact h.elim
    case ifnonnull _ =>
      unfold stp at h ⊢
      dsimp only at h ⊢
      split at h
      · exact ⟨h.1, fun q => hK _ _ _ _ _ _ _ _ _ _ (h.2.1 q), fun q => hK _ _ _ _ _ _ _ _ _ _ (h.2.2 q)⟩
      · exact h.elim
    case lookupswitch _ _ =>
      unfold stp at h ⊢
      dsimp only at h ⊢
      split at h
      · exact swi_mono (fun t q => hK _ _ _ _ _ _ _ _ _ _ q) _ h
      · exact h.elim
    case iaload =>
      unfold stp at h ⊢
      dsimp only at h ⊢
      split at h
      · exact ⟨h.1, h.2.1, hK _ _ _ _ _ _ _ _ _ _ h.2.2⟩
      · exact h.elim
    case laload =>
      unfold stp at h ⊢
      dsimp only at h ⊢
      split at h
      · exact ⟨h.1, h.2.1, hK _ _ _ _ _ _ _ _ _ _ h.2.2⟩
      · exact h.elim
    case caload =>
      unfold stp at h ⊢
      dsimp only at h ⊢
      split at h
      · exact ⟨h.1, h.2.1, hK _ _ _ _ _ _ _ _ _ _ h.2.2⟩
      · exact h.elim
    case baload =>
      unfold stp at h ⊢
      dsimp only at h ⊢
      split at h
      · exact ⟨h.1, h.2.1, hK _ _ _ _ _ _ _ _ _ _ h.2.2⟩
      · exact h.elim
    case aaload =>
      unfold stp at h ⊢
      dsimp only at h ⊢
      split at h
      · exact ⟨h.1, h.2.1, hK _ _ _ _ _ _ _ _ _ _ h.2.2⟩
      · exact h.elim
    case arraylength =>
      unfold stp at h ⊢
      dsimp only at h ⊢
      split at h
      · exact ⟨h.1, h.2.1, hK _ _ _ _ _ _ _ _ _ _ h.2.2⟩
      · exact h.elim
    case iastore =>
      unfold stp at h ⊢
      dsimp only at h ⊢
      split at h
      · exact ⟨h.1, h.2.1, h.2.2.1, hK _ _ _ _ _ _ _ _ _ _ h.2.2.2⟩
      · exact h.elim
    case lastore =>
      unfold stp at h ⊢
      dsimp only at h ⊢
      split at h
      · exact ⟨h.1, h.2.1, h.2.2.1, hK _ _ _ _ _ _ _ _ _ _ h.2.2.2⟩
      · exact h.elim
    case aastore =>
      unfold stp at h ⊢
      dsimp only at h ⊢
      split at h
      · exact ⟨h.1, h.2.1, h.2.2.1, hK _ _ _ _ _ _ _ _ _ _ h.2.2.2⟩
      · exact h.elim
    case castore =>
      unfold stp at h ⊢
      dsimp only at h ⊢
      split at h
      · exact ⟨h.1, h.2.1, h.2.2.1, h.2.2.2.1, hK _ _ _ _ _ _ _ _ _ _ h.2.2.2.2⟩
      · exact h.elim
    case anewarray _ =>
      unfold stp at h ⊢
      dsimp only at h ⊢
      split at h
      · exact ⟨h.1, h.2.1, h.2.2.1, h.2.2.2.1, hK _ _ _ _ _ _ _ _ _ _ h.2.2.2.2⟩
      · exact h.elim
    case new _ => exact ⟨h.1, h.2.1, hK _ _ _ _ _ _ _ _ _ _ h.2.2⟩
    case ireturn => exact h
    case lreturn => exact h
    case areturn => exact h
    case return_ => exact h
    case getfield _ =>
      unfold stp at h ⊢
      dsimp only at h ⊢
      split at h
      · exact ⟨h.1, hK _ _ _ _ _ _ _ _ _ _ h.2⟩
      · exact h.elim
    case d2l =>
      unfold stp at h ⊢
      dsimp only at h ⊢
      split at h
      · exact ⟨h.1, hK _ _ _ _ _ _ _ _ _ _ h.2⟩
      · exact h.elim
    case putfield _ =>
      unfold stp at h ⊢
      dsimp only at h ⊢
      split at h
      · exact ⟨h.1, hK _ _ _ _ _ _ _ _ _ _ h.2⟩
      · exact h.elim
    case d2f =>
      unfold stp at h ⊢
      dsimp only at h ⊢
      split at h
      · exact ⟨h.1, h.2.1, hK _ _ _ _ _ _ _ _ _ _ h.2.2⟩
      · exact h.elim
    case d2i =>
      unfold stp at h ⊢
      dsimp only at h ⊢
      split at h
      · exact ⟨h.1, h.2.1, hK _ _ _ _ _ _ _ _ _ _ h.2.2⟩
      · exact h.elim
    case invokestatic _ => exact h
    case dadd =>
      unfold stp at h ⊢
      dsimp only at h ⊢
      split at h
      · exact ⟨h.1, h.2.1, h.2.2.1, h.2.2.2.1, h.2.2.2.2.1, h.2.2.2.2.2.1, h.2.2.2.2.2.2.1, h.2.2.2.2.2.2.2.1, h.2.2.2.2.2.2.2.2.1, h.2.2.2.2.2.2.2.2.2.1, hK _ _ _ _ _ _ _ _ _ _ h.2.2.2.2.2.2.2.2.2.2⟩
      · exact h.elim
    case fadd =>
      unfold stp at h ⊢
      dsimp only at h ⊢
      split at h
      · exact ⟨h.1, h.2.1, hK _ _ _ _ _ _ _ _ _ _ h.2.2⟩
      · exact h.elim
    case fsub =>
      unfold stp at h ⊢
      dsimp only at h ⊢
      split at h
      · exact ⟨h.1, h.2.1, hK _ _ _ _ _ _ _ _ _ _ h.2.2⟩
      · exact h.elim
    case invokespecial _ => exact h
    case dsub =>
      unfold stp at h ⊢
      dsimp only at h ⊢
      split at h
      · exact ⟨h.1, h.2.1, h.2.2.1, hK _ _ _ _ _ _ _ _ _ _ h.2.2.2⟩
      · exact h.elim
    case invokevirtual ci => exact h
    all_goals exact False.elim h
theorem lift_mono {C : TC} {d : Nat} {K K' W : TK} {Q : TQ}
    (hK : ∀ pc ls st c s n sh I L P, K pc ls st c s n sh I L P → K' pc ls st c s n sh I L P) {o : Option AI} {ls : List (Option Value)} {st : List Value} {c s n : Nat} {sh : TS} {I : TI} {L : TL} {P : TP}
    (h : lift C d K W Q o ls st c s n sh I L P) : lift C d K' W Q o ls st c s n sh I L P := by
  cases o with
  | none => exact h
  | some i => exact stp_mono hK h
/-- many instructions -/
theorem run_ok {G : GE} {y d : Nat} {Q : TQ} {cut : Nat} : ∀ (k pc : Nat) (ls : List (Option Value)) (st : List Value) (c s n : Nat) (sh : TS) (I : TI) (L : TL) (P : TP), run (Cl G (d - 1)) y d Q (WP G y d Q) cut k pc ls st c s n sh I L P → WP G y d Q pc ls st c s n sh I L P
  | 0, _, _, _, _, _, _, _, _, _, _, h => h
  | k + 1, pc, ls, st, c, s, n, sh, I, L, P, h => by
    unfold run at h
    split at h
    · exact h
    · exact WP_step (lift_mono (fun _ _ _ _ _ _ _ _ _ _ q => run_ok k _ _ _ _ _ _ _ _ _ _ q) h)
/-- from a place on: one instruction, then many, until the place cut -/
theorem WP_run {G : GE} {y d : Nat} {Q : TQ} (cut k : Nat) {pc : Nat} {ls : List (Option Value)} {st : List Value} {c s n : Nat} {sh : TS} {I : TI} {L : TL} {P : TP} (h : lift (Cl G (d - 1)) d (run (Cl G (d - 1)) y d Q (WP G y d Q) cut k) (WP G y d Q) Q (cod y pc) ls st c s n sh I L P) : WP G y d Q pc ls st c s n sh I L P :=
  WP_step (lift_mono (fun _ _ _ _ _ _ _ _ _ _ q => run_ok k _ _ _ _ _ _ _ _ _ _ q) h)
theorem ini_len_pad {n : Nat} {l : List (Option Value)} (h : l.length ≤ n) : (padTo n l).length = n := by simp [padTo]; omega
/-- a method's call is worth what its entry is worth -/
theorem Cl_of {G : GE} {d y : Nat} (hy : y < lawY) {as : List Value} {n : Nat} {sh : TS} {I : TI} {L : TL} {P : TP} {Q : TQ} (hd : ∀ a ∈ as, ∀ b, a ≠ .double b) (hn : (ini as).length ≤ mML y)
    (h : WP G y d Q 0 (padTo (mML y) (ini as)) [] (mMc y) (mMs y) n sh I L P) : Cl G d y as n sh I L P Q := by
  refine ⟨Q, fun _ _ _ _ _ _ q => q, ?_⟩
  obtain ⟨o1, o2, o3, o4, o5, o6, o7, o8, -, -, o9⟩ := mOk hy
  refine Met.ofW (cc := mBy y) (maxL := mML y) (ret := mRt y) o4 rfl ?_
  intro p e s m args below meth c s₁ B hml hv
  obtain ⟨rfl, hK, hM, hsz⟩ := hv
  have hts := atoms_spec (ws := wsOf y) B.pre
  have hown : s.vm.findClass (mNm y).cls = some m.cls := findClass_of_methodNamed B.named
  rw [lg_entry_eq]
  have hX : Ctx G y d p s m _ meth c (headSpec (wsOf y) (rmOf d y)).room := ⟨B.exec, B.bytes, B.returns, hml, hown, fun w hw => hts w (List.mem_cons_of_mem _ hw), B.notSynchronized, fun hk => by
    rw [(name_of_methodNamed B.named B.method).1]; exact (o9 hk).2.1, hK, Nat.le_refl _, Nat.le_refl _, rfl, rfl, o3, hsz⟩
  exact h p e s m _ below meth c _ s.heap [] 0 0 _ hX hM va_S.rf (LR.entry hX.gf hd hn) (ini_len_pad hn) (by omega) (by omega)
