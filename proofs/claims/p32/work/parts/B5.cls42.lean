/-! ===== Arrays.copyOf ===== -/
abbrev mJ7_copyOf : zM := (yJ7_copyOf_59c91, cJ7_copyOf_59c91, 3, some (.array .int))
set_option maxRecDepth 20000 in
theorem cw_lk : Cond.methodLink RX2 50 mJ7_copyOf.1 ∈ ztb := ztb_in (zc4 (List.mem_of_getElem? (i := 67) rfl)) rfl
set_option maxRecDepth 20000 in
theorem cw_st : Cond.static mJ7_copyOf.1 ∈ ztb := ztb_in (zc4 (List.mem_of_getElem? (i := 68) rfl)) rfl
set_option maxRecDepth 20000 in
theorem cw_cd : Cond.code mJ7_copyOf.1 mJ7_copyOf.2.1 mJ7_copyOf.2.2.1 mJ7_copyOf.2.2.2 ∈ ztb := ztb_in (zc4 (List.mem_of_getElem? (i := 69) rfl)) rfl
set_option maxRecDepth 20000 in
theorem cw_in : Cond.initialized mJ7_copyOf.1.cls ∈ ztb := ztb_in (zc1 (List.mem_of_getElem? (i := 22) rfl)) rfl
set_option maxRecDepth 20000 in
theorem cw_cl : Cond.methodLink RJ7 316 ⟨"[I", "clone", "()Ljava/lang/Object;"⟩ ∈ ztb := ztb_in (zc4 (List.mem_of_getElem? (i := 70) rfl)) rfl
set_option maxRecDepth 20000 in
theorem cw_nc : Cond.native ⟨"java/lang/Object", "clone", "()Ljava/lang/Object;"⟩ ∈ ztb := ztb_in (zc4 (List.mem_of_getElem? (i := 72) rfl)) rfl
set_option maxRecDepth 20000 in
theorem cw_ic : Cond.instanceMethod ⟨"java/lang/Object", "clone", "()Ljava/lang/Object;"⟩ ∈ ztb := ztb_in (zc4 (List.mem_of_getElem? (i := 73) rfl)) rfl
set_option maxRecDepth 20000 in
theorem cw_sc : Cond.selects "[I" ⟨"[I", "clone", "()Ljava/lang/Object;"⟩ ⟨"java/lang/Object", "clone", "()Ljava/lang/Object;"⟩ ∈ ztb := ztb_in (zc4 (List.mem_of_getElem? (i := 74) rfl)) rfl
set_option maxRecDepth 20000 in
theorem cw_cc : Cond.classLink RJ7 317 "[I" ∈ ztb := ztb_in (zc4 (List.mem_of_getElem? (i := 76) rfl)) rfl
set_option maxRecDepth 20000 in
theorem cw_mn : Cond.methodLink RJ7 304 Lib.Math.min.name ∈ ztb := ztb_in (zc4 (List.mem_of_getElem? (i := 77) rfl)) rfl
set_option maxRecDepth 20000 in
theorem cw_ac : Cond.methodLink RJ7 150 arraycopyName ∈ ztb := ztb_in (zc4 (List.mem_of_getElem? (i := 78) rfl)) rfl
set_option maxRecDepth 20000 in
theorem cw_as : Cond.static arraycopyName ∈ ztb := ztb_in (zc4 (List.mem_of_getElem? (i := 79) rfl)) rfl
set_option maxRecDepth 20000 in
theorem cw_an : Cond.native arraycopyName ∈ ztb := ztb_in (zc4 (List.mem_of_getElem? (i := 80) rfl)) rfl
set_option maxRecDepth 20000 in
theorem cw_sy : Cond.initialized "java/lang/System" ∈ ztb := ztb_in (zc1 (List.mem_of_getElem? (i := 23) rfl)) rfl
set_option maxRecDepth 20000 in
theorem cw_sm : Cond.sameMethod "[I" "java/lang/Object" "clone" "()Ljava/lang/Object;" ∈ ztb := ztb_in (zc4 (List.mem_of_getElem? (i := 71) rfl)) rfl
set_option maxRecDepth 20000 in
theorem cw_ai : Cond.arrayClass (zty 0) ∈ ztb := ztb_in (zc1 (List.mem_of_getElem? (i := 73) rfl)) rfl
theorem cw_cb : Cond.castable "[I" "java/lang/Cloneable" ∈ lw_tbl := zc4 (List.mem_of_getElem? (i := 75) rfl)
theorem mfJ7_copyOf : zMf mJ7_copyOf 2 := ⟨cw_cd, cw_in, ⟨by decide +kernel, by decide +kernel, by decide +kernel⟩, by decide⟩
theorem mpJ7_copyOf : plainName mJ7_copyOf.1.cls = true := by decide +kernel
/-- a whole row of ints is set -/
def zsA (μ : zMem) (a : Nat) (f : Nat → Int32) : zMem := (zN μ, zK μ, zL μ, fun b j => if b = a then f j else zI μ b j, zP μ, zG μ)
theorem zent_sA_ne (cA : Nat → ClassId) (ad : Nat → Nat) (μ : zMem) (a : Nat) (f : Nat → Int32) (b : Nat) (h : b ≠ a) : zent cA ad (zsA μ a f) b = zent cA ad μ b := by
  have e : zI (zsA μ a f) b = zI μ b := by
    funext j
    show (if b = a then f j else zI μ b j) = _
    rw [if_neg h]
  unfold zent
  rw [e]
  rfl
theorem zsA_i (μ : zMem) (a : Nat) (f : Nat → Int32) : zI (zsA μ a f) a = f := by
  funext j
  show (if a = a then f j else zI μ a j) = _
  rw [if_pos rfl]
theorem zcpl {kk : Nat} {st : List Value} {ad : Nat → Nat} {x : Nat} (hlo : zlo kk ≤ x) (h8 : (st.map fun v => v.category).sum ≤ 8) : ((st.map (ztv ad)).map fun v => v.category).sum + (nativeFrameWords "java/lang/System" "arraycopy" 5 + 11) ≤ x := by
  rw [zcat8]
  have : nativeFrameWords "java/lang/System" "arraycopy" 5 ≤ 100 := by decide +kernel
  unfold zlo at hlo
  omega
section CPY
variable {τ : zT} {M : zM} {kk mc ms : Nat} {F : State → Prop} {pc : Nat} {L : List (Option Value)} {st : List Value} {μ : zMem} {c k : Nat}
theorem J_acopy (hT : zCx τ M kk mc ms) {idx a b n : Nat} (hd : decode M.2.1 pc = .ok (.invokestatic idx, 3)) (hlink : Cond.methodLink M.1.cls idx arraycopyName ∈ ztb) (ha0 : zK μ a = 0) (hb0 : zK μ b = 0) (hna : n ≤ zL μ a) (hnb : n ≤ zL μ b) (hn : n ≤ 100000) (hL : L.length = M.2.2.1) (h8 : (st.map fun v => v.category).sum ≤ 8)
    (h : zJ τ F (pc + 3) L st (zsA μ b (va_cpy (zI μ a) (zI μ b) 0 0 n)) c k) : zJ τ F pc L (.int (nI n) :: .int 0 :: .ref b :: .int 0 :: .ref a :: st) μ c k := by
  intro ad H locs ls hw hLo hst
  have hb := zok_lt (zoks_hd (zoks_tl (zoks_tl hst)))
  have ha := zok_lt (zoks_hd (zoks_tl (zoks_tl (zoks_tl (zoks_tl hst)))))
  have hea := zws_at τ.2.2.2.2.2.2.2.2.2.2.1.2.2 ad μ ha
  have heb := zws_at τ.2.2.2.2.2.2.2.2.2.2.1.2.2 ad μ hb
  rw [zent_i ha0 (by decide)] at hea
  rw [zent_i hb0 (by decide)] at heb
  obtain ⟨_, _, _, _, _, _, _, _, _, _, _, hfr, hlo, hcc, hss⟩ := id hT
  have e0 : (0 : Int32).toNatClampNeg = 0 := rfl
  have en : (nI n).toNatClampNeg = n := nI_clamp (by omega)
  refine va_copyi hT.1 hT.2.1 (by rw [hT.2.2.1, ← hL]; exact hLo.1.symm) hT.own (hT.ws _ hlink) (hT.ws _ cw_an) (hT.ws _ cw_as) (hT.ws _ cw_sy) hT.K hw.1.1 hw.1.2.1 hw.2.1 a b 0 0 hea heb (ztys_at _ (by decide)) (ztys_at _ (by decide)) rfl (by decide) (by decide) (nI_pos (by omega)) (by rw [e0, en]; omega) (by rw [e0, en]; omega) (fun i _ => rfl) (by unfold zfr at hfr; omega) (zcpl hlo h8) hd (fun H1 locs1 q1 q2 q3 => ?_)
  rw [e0, en] at q1 q2
  refine h ad H1 locs1 ls (zHS_set hw rfl hw.1.2.2 (zws_set (μ := μ) (μ' := zsA μ b (va_cpy (zI μ a) (zI μ b) 0 0 n)) rfl ?_ (fun x hx => zent_sA_ne _ ad μ b _ x hx)) q1 q2 q3) hLo (zoks_tl (zoks_tl (zoks_tl (zoks_tl (zoks_tl hst)))))
  rw [zent_i (μ := zsA μ b (va_cpy (zI μ a) (zI μ b) 0 0 n)) hb0 (by decide), zsA_i]
  rfl
theorem J_aretA (hT : zCx τ M kk mc ms) {Q : Option Value → zMem → Prop} {a : Nat} {n : FieldType} (hd : decode M.2.1 pc = .ok (.areturn, 1)) (hr : M.2.2.2 = some (.array n)) (hq : Q (some (.ref a)) μ) (hc : c ≤ mc) (hk : k ≤ ms) : zJ τ (zFn τ Q mc ms) pc L [.ref a] μ c k := by
  intro ad H locs ls hw hL hst
  refine W.widen hc hk ?_
  exact W.aret (v := .ref (ad a)) hT.1 hT.2.1 (hT.2.2.2.1.trans hr) (Or.inr ⟨_, rfl⟩) (Or.inr ⟨_, rfl⟩) (fun t ht _ => zend (r := some (.ref a)) hT hw hq (fun w e => by cases e; exact zoks_hd hst) t ht) hw.2.1.2.2 hd hT.2.2.2.2.2.2.1
end CPY

