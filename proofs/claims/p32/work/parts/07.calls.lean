/-! ===== contracts, bodies, returns, calls ===== -/
def zPc (Z : zZ) (ad : Nat → Nat) (μ : zMem) (a : List Value) : Array Value → State → Prop := fun args U => args = (a.map (ztv ad)).toArray ∧ Z.1.WarmedH U.vm ∧ zH Z ad μ U.heap ∧ zB Z U.heap
def zQc (Z : zZ) (ad : Nat → Nat) (n : Nat) (Q : Option Value → zMem → Prop) : Array Value → State → Outcome → State → Prop := fun _ st o t => ∃ (r : Option Value) (μ' : zMem) (ad' : Nat → Nat), o = .returned (r.map (ztv ad')) ∧ Q r μ' ∧ (∀ v, r = some v → zok (zN μ') v) ∧ (∀ a, a < n → ad' a = ad a) ∧ n ≤ zN μ' ∧ zH Z ad' μ' t.heap ∧ zB Z t.heap ∧ st.heap.size ≤ t.heap.size
/-- a method's contract at these arguments and this world -/
def zCt (l : Launch) (Z : zZ) (m : zM) (k mc ms : Nat) (a : List Value) (μ : zMem) (Q : Option Value → zMem → Prop) : Prop :=
  ∀ ad : Nat → Nat, zoks (zN μ) a → Met l m.1 (zws1 m) (zrm k mc ms) (zPc Z ad μ a) (zQc Z ad (zN μ) Q) mc ms (zA Z)
def zFn (τ : zT) (Q : Option Value → zMem → Prop) (mc ms : Nat) : State → Prop := MQ τ.2.2.2.2.2.2.2.1 (zQc τ.2.2.2.2.2.2.2.2.2.2.1 τ.2.2.2.2.2.2.2.2.2.2.2.1 τ.2.2.2.2.2.2.2.2.2.2.2.2 Q) τ.2.2.2.2.2.2.1 τ.2.2.2.2.1 mc ms (zA τ.2.2.2.2.2.2.2.2.2.2.1)
def zCy (l : Launch) (Z : zZ) (τ : zT) (M : zM) (k mc ms : Nat) : Prop := zCx τ M k mc ms ∧ τ.2.1 = l ∧ τ.2.2.2.2.2.2.2.2.2.2.1 = Z
def zso : Slot → Option Value := fun s => match s with
  | .val v => some v
  | _ => none
def zar (a : List Value) (n : Nat) : List (Option Value) := (lg_sl a ++ List.replicate (n - (lg_sl a).length) Slot.unset).map zso
def zsl (ad : Nat → Nat) : Slot → Slot := fun s => match s with
  | .val v => .val (ztv ad v)
  | w => w
theorem zsl_sl (ad : Nat → Nat) (a : List Value) : lg_sl (a.map (ztv ad)) = (lg_sl a).map (zsl ad) := by
  induction a with
  | nil => rfl
  | cons v a ih =>
    have h1 : lg_sl (v :: a) = (if v.category = 2 then [.val v, .second] else [.val v]) ++ lg_sl a := rfl
    have h2 : lg_sl ((v :: a).map (ztv ad)) = (if (ztv ad v).category = 2 then [.val (ztv ad v), .second] else [.val (ztv ad v)]) ++ lg_sl (a.map (ztv ad)) := rfl
    rw [h1, h2, ih, ztv_cat, List.map_append]
    congr 1
    split <;> rfl
theorem zar_len {a : List Value} {n : Nat} (h : (lg_sl a).length ≤ n) : (zar a n).length = n := by
  simp only [zar, List.length_map, List.length_append, List.length_replicate]
  omega
theorem zLo_entry {ad : Nat → Nat} {a : List Value} {n N : Nat} (h : (lg_sl a).length ≤ n) (ho : zoks N a) : zLo ad N (zar a n) ((lg_sl (a.map (ztv ad)) ++ List.replicate (n - (lg_sl (a.map (ztv ad))).length) Slot.unset).toArray) := by
  have hl : (lg_sl (a.map (ztv ad))).length = (lg_sl a).length := by rw [zsl_sl, List.length_map]
  have he := lv_entry (a.map (ztv ad)) (n := n) (by rw [hl]; exact h)
  refine ⟨by rw [he.1, zar_len h], he.2.1, fun i v hi => ?_⟩
  have hin : ∀ s, s ∈ lg_sl a → ∀ v, s = Slot.val v → v ∈ a := by
    intro s hs v hv
    obtain ⟨w, hw, hs⟩ := List.mem_flatMap.mp hs
    split at hs
    · rcases List.mem_cons.mp hs with e | e
      · rw [hv] at e; cases e; exact hw
      · rw [List.mem_singleton.mp e] at hv; cases hv
    · rw [List.mem_singleton.mp hs] at hv; cases hv; exact hw
  rw [hl, zsl_sl]
  simp only [zar, List.getElem?_map] at hi
  cases hq : (lg_sl a ++ List.replicate (n - (lg_sl a).length) Slot.unset)[i]? with
  | none => rw [hq] at hi; cases hi
  | some s =>
    rw [hq] at hi
    simp only [Option.map_some, Option.some.injEq] at hi
    have hs : s = .val v := by
      cases s <;> simp_all [zso]
    subst hs
    have e : (lg_sl a).map (zsl ad) ++ List.replicate (n - (lg_sl a).length) Slot.unset = (lg_sl a ++ List.replicate (n - (lg_sl a).length) Slot.unset).map (zsl ad) := by
      rw [List.map_append, List.map_replicate]; rfl
    refine ⟨by rw [List.getElem?_toArray, e, List.getElem?_map, hq]; rfl, ?_⟩
    rcases List.mem_append.mp (List.mem_of_getElem? hq) with q | q
    · exact ho v (hin _ q v rfl)
    · cases (List.mem_replicate.mp q).2
theorem zPc_blind (Z : zZ) (ad : Nat → Nat) (μ : zMem) (a : List Value) : FrameBlind (zPc Z ad μ a) := fun _ _ _ _ h => h
/-- a contract out of its body's walk -/
theorem zCt_of {l : Launch} {Z : zZ} (hZ : zSt l Z) {m : zM} {k mc ms : Nat} {a : List Value} {μ : zMem} {Q : Option Value → zMem → Prop} {L : List (Option Value)} (hy : plainName m.1.cls = true) (hlen : (lg_sl a).length ≤ m.2.2.1) (hL : zar a m.2.2.1 = L)
    (body : ∀ τ : zT, zCy l Z τ m k mc ms → zJ τ (zFn τ Q mc ms) 0 L [] μ 0 0) : zCt l Z m k mc ms a μ Q := by
  intro ad ho
  subst hL
  refine Met.ofW (cc := m.2.1) (maxL := m.2.2.1) (ret := m.2.2.2) hy rfl ?_
  intro p e s mm args below meth c s₁ B hml hv
  obtain ⟨rfl, hW, hH, hB⟩ := hv
  have hts := atoms_spec (ws := zws1 m) B.pre
  have hb := body (p, l, e, (headSpec (zws1 m) (zrm k mc ms)).room, s, mm, (a.map (ztv ad)).toArray, below, meth, c, Z, ad, zN μ)
    ⟨⟨B.exec, B.bytes, hml, B.returns, findClass_of_methodNamed B.named, fun w hw => hts w (List.mem_cons_of_mem _ hw), B.notSynchronized, (name_of_methodNamed B.named B.method).1, hZ, hW, hB, Nat.le_refl _, Nat.le_refl _, Nat.le_refl _, Nat.le_refl _⟩, rfl, rfl⟩
    ad s.heap [] _ ⟨hH, va_S.rf, fun _ _ => rfl, Nat.le_refl _⟩ (zLo_entry hlen ho) (zoks_nil _)
  rw [lg_entry_eq]
  exact hb
theorem zCt_mono {l : Launch} {Z : zZ} {m : zM} {k mc ms : Nat} {a : List Value} {μ : zMem} {Q Q' : Option Value → zMem → Prop} (h : zCt l Z m k mc ms a μ Q) (hQ : ∀ r μ', Q r μ' → Q' r μ') : zCt l Z m k mc ms a μ Q' := by
  intro ad ho
  have h1 := h ad ho
  intro p e h2 h3 h4 s m' args below hf happ hP hK
  obtain ⟨t, o, g1, g2, g3, ⟨r, μ', ad', q1, q2, q3⟩, g5⟩ := h1 p e h2 h3 h4 s m' args below hf happ hP hK
  exact ⟨t, o, g1, g2, g3, ⟨r, μ', ad', q1, hQ _ _ q2, q3⟩, g5⟩
/-- a method's own words -/
def zMf (m : zM) (n : Nat) : Prop := Cond.code m.1 m.2.1 m.2.2.1 m.2.2.2 ∈ ztb ∧ Cond.initialized m.1.cls ∈ ztb ∧ (m.1.cls ≠ "java/lang/invoke/MethodHandle" ∧ m.1.cls ≠ "java/lang/invoke/VarHandle" ∧ (parseMethodDescriptor m.1.desc).map (fun d => d.parameters.length) = some n) ∧ m.2.2.1 ≤ 60
section ZC
variable {l : Launch} {Z : zZ} {τ : zT} {M : zM} {kk mc ms : Nat} {F : State → Prop} {pc : Nat} {L : List (Option Value)} {st : List Value} {μ : zMem} {c k : Nat}
theorem zHS.B (hT : zCx τ M kk mc ms) {ad : Nat → Nat} {H : Heap} {locs : List Loc} (hw : zHS τ ad μ H locs) : zB τ.2.2.2.2.2.2.2.2.2.2.1 H := by
  obtain ⟨_, _, _, _, _, _, _, _, _, _, hB, _⟩ := hT
  refine ⟨Nat.le_trans hB.1 hw.2.1.1, fun q hq => ?_⟩
  rw [hw.2.1.2.1 q (Nat.lt_of_lt_of_le hq hB.1) (fun h => by unfold zA at h; omega)]
  exact hB.2 q hq
theorem zend (hT : zCx τ M kk mc ms) {Q : Option Value → zMem → Prop} {ad : Nat → Nat} {H : Heap} {locs : List Loc} (hw : zHS τ ad μ H locs) {r : Option Value} (hq : Q r μ) (hr : ∀ v, r = some v → zok (zN μ) v) (t : State) (ht : t.heap = H) : zQc τ.2.2.2.2.2.2.2.2.2.2.1 τ.2.2.2.2.2.2.2.2.2.2.2.1 τ.2.2.2.2.2.2.2.2.2.2.2.2 Q τ.2.2.2.2.2.2.1 τ.2.2.2.2.1 (.returned (r.map (ztv ad))) t :=
  ⟨r, μ, ad, rfl, hq, hr, hw.2.2.1, hw.2.2.2, by rw [ht]; exact hw.1, by rw [ht]; exact zHS.B hT hw, by rw [ht]; exact hw.2.1.1⟩
theorem J_iret (hT : zCx τ M kk mc ms) {Q : Option Value → zMem → Prop} {v : Int32} {ty : FieldType} (hd : decode M.2.1 pc = .ok (.ireturn, 1)) (hr : M.2.2.2 = some ty) (hn : narrow ty (.int v) = .int v) (hq : Q (some (.int v)) μ) (hc : c ≤ mc) (hk : k ≤ ms) : zJ τ (zFn τ Q mc ms) pc L [.int v] μ c k := by
  intro ad H locs ls hw hL hst
  refine W.widen hc hk ?_
  exact W.zret (v := v) hT.1 hT.2.1 (hT.2.2.2.1.trans hr) hn (fun t ht _ => zend (r := some (.int v)) hT hw hq (fun w e => by cases e; exact zok_int _ _) t ht) hw.2.1.2.2 hd hT.2.2.2.2.2.2.1
theorem J_lret (hT : zCx τ M kk mc ms) {Q : Option Value → zMem → Prop} {v : Int64} (hd : decode M.2.1 pc = .ok (.lreturn, 1)) (hr : M.2.2.2 = some .long) (hq : Q (some (.long v)) μ) (hc : c ≤ mc) (hk : k ≤ ms) : zJ τ (zFn τ Q mc ms) pc L [.long v] μ c k := by
  intro ad H locs ls hw hL hst
  refine W.widen hc hk ?_
  exact W.lret (v := v) hT.1 hT.2.1 (hT.2.2.2.1.trans hr) (fun t ht _ => zend (r := some (.long v)) hT hw hq (fun w e => by cases e; exact zok_long _ _) t ht) hw.2.1.2.2 hd hT.2.2.2.2.2.2.1
theorem J_aret (hT : zCx τ M kk mc ms) {Q : Option Value → zMem → Prop} {a : Nat} {n : String} (hd : decode M.2.1 pc = .ok (.areturn, 1)) (hr : M.2.2.2 = some (.object n)) (hq : Q (some (.ref a)) μ) (hc : c ≤ mc) (hk : k ≤ ms) : zJ τ (zFn τ Q mc ms) pc L [.ref a] μ c k := by
  intro ad H locs ls hw hL hst
  refine W.widen hc hk ?_
  exact W.aret (v := .ref (ad a)) hT.1 hT.2.1 (hT.2.2.2.1.trans hr) (Or.inl ⟨_, rfl⟩) (Or.inr ⟨_, rfl⟩) (fun t ht _ => zend (r := some (.ref a)) hT hw hq (fun w e => by cases e; exact zoks_hd hst) t ht) hw.2.1.2.2 hd hT.2.2.2.2.2.2.1
theorem J_vret (hT : zCx τ M kk mc ms) {Q : Option Value → zMem → Prop} (hd : decode M.2.1 pc = .ok (.return_, 1)) (hr : M.2.2.2 = none) (hq : Q none μ) (hc : c ≤ mc) (hk : k ≤ ms) : zJ τ (zFn τ Q mc ms) pc L [] μ c k := by
  intro ad H locs ls hw hL hst
  refine W.widen hc hk ?_
  exact W.vret hT.1 hT.2.1 (hT.2.2.2.1.trans hr) (fun t ht _ => zend (r := none) hT hw hq (fun w e => by cases e) t ht) hw.2.1.2.2 hd hT.2.2.2.2.2.2.1
/-- behind a call that returned -/
theorem zback (hT : zCx τ M kk mc ms) {Q' : Option Value → zMem → Prop} {mc' ms' : Nat} {ad : Nat → Nat} {H : Heap} {locs : List Loc} {ls : Array Slot} {st0 : List Value} {argsA : Array Value} (hw : zHS τ ad μ H locs) (hL : zLo ad (zN μ) L ls) (hst : zoks (zN μ) st)
    (hr : va_Run τ.1 τ.2.1 τ.2.2.1 τ.2.2.2.1 τ.2.2.2.2.1 τ.2.2.2.2.2.1 τ.2.2.2.2.2.2.1 τ.2.2.2.2.2.2.2.1 τ.2.2.2.2.2.2.2.2.1 τ.2.2.2.2.2.2.2.2.2.1 H locs c k mc' ms' (zF0 τ pc ls st0) (st.map (ztv ad)) (zQc τ.2.2.2.2.2.2.2.2.2.2.1 ad (zN μ) Q' argsA) (zA τ.2.2.2.2.2.2.2.2.2.2.1))
    (h : ∀ (r : Option Value) (μ' : zMem), Q' r μ' → zJ τ F (pc + 3) L (r.toList ++ st) μ' (c + mc') (k + ms')) : zW τ H locs c k F (zF0 τ pc ls st0) := by
  intro T hTh X
  obtain ⟨v, st₀, t, T', L', h0, X', hL', e1, e2, ⟨r, μ', ad', q1, q2, q3, q4, q5, q6, q7, q8⟩, hgo⟩ := hr T hTh X
  cases q1
  obtain ⟨_, _, _, _, _, _, _, _, _, _, hB, _⟩ := id hT
  have hst' : zoks (zN μ') (r.toList ++ st) := by
    intro w hwm
    rcases List.mem_append.mp hwm with g | g
    · exact q3 w (by cases r with
        | none => cases g
        | some x => rw [List.mem_singleton.mp g])
    · exact zok_mono (hst w g) q5
  have hS : va_S (zA τ.2.2.2.2.2.2.2.2.2.2.1) τ.2.2.2.2.1.heap T'.heap (locs ++ L') := by
    refine ⟨Nat.le_trans hw.2.1.1 (by rw [e1, ← h0]; exact q8), fun q g1 g2 => ?_, fun q hq => ?_⟩
    · have hlt : q < τ.2.2.2.2.2.2.2.2.2.2.1.1.heap.size := Nat.not_le.mp g2
      rw [e1, q7.2 q hlt, hB.2 q hlt]
    · rcases List.mem_append.mp hq with g | g
      · exact hw.2.1.2.2 q g
      · exact hL' q g
  have hw' : zHS τ ad' μ' T'.heap (locs ++ L') := ⟨by rw [e1]; exact q6, hS, fun a ha => by rw [q4 a (Nat.lt_of_lt_of_le ha hw.2.2.2)]; exact hw.2.2.1 a ha, Nat.le_trans hw.2.2.2 q5⟩
  have hJ := h r μ' q2 ad' T'.heap (locs ++ L') ls hw' (zLo_mono hL q4 q5) hst'
  obtain ⟨t2, a1, b1⟩ := hJ T' rfl X'
  refine ⟨t2, hgo t2 ?_, b1⟩
  have e3 : (r.map (ztv ad')).toList ++ st.map (ztv ad) = (r.toList ++ st).map (ztv ad') := by
    rw [List.map_append, ztv_congrs hst q4]
    cases r <;> rfl
  rw [e3]
  exact a1
theorem zroom {k' kk : Nat} {R : Room} {mL : Nat} (h : k' < kk) (h1 : zfr kk ≤ R.frames) (h2 : zlo kk ≤ R.locals) (h3 : mL ≤ 60) (mc ms : Nat) : (zrm k' mc ms).frames + 1 ≤ R.frames ∧ 8 + (mL + 11) + (zrm k' mc ms).locals ≤ R.locals := by
  unfold zfr at h1; unfold zlo at h2
  show 8 * k' + 40 + 1 ≤ R.frames ∧ 8 + (mL + 11) + (100 * k' + 500) ≤ R.locals
  omega
theorem zpay {m : zM} {n : Nat} (h : zMf m n) : GoodIn ztb (zws1 m) := by
  intro w hw
  rcases List.mem_cons.mp hw with rfl | hw
  · exact ⟨h.1, good_of_word (ztb_good _ h.1).2⟩
  · exact ⟨hw, good_of_word (ztb_good _ hw).2⟩
theorem zcat8 (ad : Nat → Nat) (st : List Value) : ((st.map (ztv ad)).map fun v => v.category).sum = (st.map fun v => v.category).sum := by
  rw [List.map_map]
  congr 1
  exact List.map_congr_left fun v _ => ztv_cat ad v
theorem J_callS (hY : zCy l Z τ M kk mc ms) {m : zM} {n k' mc' ms' idx : Nat} {as stk : List Value} {Q' : Option Value → zMem → Prop} (hd : decode M.2.1 pc = .ok (.invokestatic idx, 3)) (hm : zMf m n) (hsta : Cond.static m.1 ∈ ztb) (hlink : Cond.methodLink M.1.cls idx m.1 ∈ ztb ∨ ∃ host, Cond.methodLinkNest M.1.cls idx m.1 host ∈ lw_tbl)
    (ct : zCt l Z m k' mc' ms' as μ Q') (hn : as.length = n) (hkk : k' < kk) (hs : stk = as.reverse ++ st) (hL : L.length = M.2.2.1) (h8 : (st.map fun v => v.category).sum ≤ 8) (hc : c + mc' ≤ mc) (hk : k + ms' ≤ ms)
    (h : ∀ (r : Option Value) (μ' : zMem), Q' r μ' → zJ τ F (pc + 3) L (r.toList ++ st) μ' (c + mc') (k + ms')) : zJ τ F pc L stk μ c k := by
  intro ad H locs ls hw hLo hst
  subst hs
  obtain ⟨hT, el, eZ⟩ := hY
  subst el; subst eZ
  obtain ⟨_, _, _, _, _, _, _, _, _, hWm, hB, hfr, hlo, hcc, hss⟩ := id hT
  have hst1 : zoks (zN μ) st := fun v hv => hst v (List.mem_append_right _ hv)
  have hoa : zoks (zN μ) as := fun v hv => hst v (List.mem_append_left _ (List.mem_reverse.mpr hv))
  have hp : PreS τ.2.2.2.2.1 H (zPc τ.2.2.2.2.2.2.2.2.2.2.1 ad μ as) (as.map (ztv ad)) := ⟨zPc_blind _ _ _ _, fun U hU hWU => ⟨rfl, hWm.trans hWU, by rw [hU]; exact hw.1, by rw [hU]; exact zHS.B hT hw⟩⟩
  have hst0 : (as.reverse ++ st).map (ztv ad) = (as.map (ztv ad)).reverse ++ st.map (ztv ad) := by rw [List.map_append, List.map_reverse]
  rcases hlink with hlink | ⟨host, hlink⟩
  · refine zback hT hw hLo hst1 (va_runS (Ts := ztb) ⟨hT.1, hT.2.1, hT.2.2.1, hT.own, hT.ws⟩ (ct ad hoa) ⟨callB_of n hT.ws (zpay hm) rfl rfl rfl (hT.ws _ hm.2.1) (hT.ws _ hlink) hm.2.2.1 (zroom hkk hfr hlo hm.2.2.2 mc' ms'), hT.ws _ hsta⟩ hp rfl (by rw [List.length_map]; exact hn) (hLo.1.trans hL) hst0 (lv_room (by rw [zcat8]; exact h8)) hd ⟨by omega, by omega⟩) h
  · refine zback hT hw hLo hst1 (va_runSN (Ts := ztb) ⟨hT.1, hT.2.1, hT.2.2.1, hT.own, hT.ws⟩ (ct ad hoa) ⟨va_cnB n hT.ws (zpay hm) rfl rfl rfl (hT.nestM hlink) (hT.ws _ hm.2.1) hm.2.2.1 (zroom hkk hfr hlo hm.2.2.2 mc' ms'), hT.ws _ hsta, trivial⟩ hp rfl (by rw [List.length_map]; exact hn) (hLo.1.trans hL) hst0 (lv_room (by rw [zcat8]; exact h8)) hd ⟨by omega, by omega⟩) h
theorem J_callV (hY : zCy l Z τ M kk mc ms) {m : zM} {n k' mc' ms' idx b ci : Nat} {as stk : List Value} {Q' : Option Value → zMem → Prop} (hd : decode M.2.1 pc = .ok (.invokevirtual idx, 3)) (hm : zMf m n) (hins : Cond.instanceMethod m.1 ∈ ztb) (hsel : Cond.selects m.1.cls m.1 m.1 ∈ ztb) (hlink : Cond.methodLink M.1.cls idx m.1 ∈ ztb ∨ ∃ host, Cond.methodLinkNest M.1.cls idx m.1 host ∈ lw_tbl)
    (hci : ci < 9 ∧ zRX ci = m.1.cls) (hb : zK μ b = ci + 8) (ct : zCt l Z m k' mc' ms' (.ref b :: as) μ Q') (hn : as.length = n) (hkk : k' < kk) (hs : stk = as.reverse ++ .ref b :: st) (hL : L.length = M.2.2.1) (h8 : (st.map fun v => v.category).sum ≤ 8) (hc : c + mc' ≤ mc) (hk : k + ms' ≤ ms)
    (h : ∀ (r : Option Value) (μ' : zMem), Q' r μ' → zJ τ F (pc + 3) L (r.toList ++ st) μ' (c + mc') (k + ms')) : zJ τ F pc L stk μ c k := by
  intro ad H locs ls hw hLo hst
  subst hs
  obtain ⟨hT, el, eZ⟩ := hY
  subst el; subst eZ
  obtain ⟨_, _, _, _, _, _, _, _, _, hWm, hB, hfr, hlo, hcc, hss⟩ := id hT
  have hst1 : zoks (zN μ) st := fun v hv => hst v (List.mem_append_right _ (List.mem_cons_of_mem _ hv))
  have hob : zok (zN μ) (.ref b) := hst _ (List.mem_append_right _ List.mem_cons_self)
  have hoa : zoks (zN μ) (.ref b :: as) := zoks_cons hob fun v hv => hst v (List.mem_append_left _ (List.mem_reverse.mpr hv))
  have he := zws_at τ.2.2.2.2.2.2.2.2.2.2.1.2.2 ad μ (zok_lt hob)
  rw [zent_o hb] at he
  obtain ⟨cell, g1, g2, g3⟩ := va_recv hT.K hw.1.1 (zcl_at ci hci.1) he
  have hp : PreV τ.2.2.2.2.1 H m.1.cls (ad b) (zPc τ.2.2.2.2.2.2.2.2.2.2.1 ad μ (.ref b :: as)) (as.map (ztv ad)) := ⟨zPc_blind _ _ _ _, ⟨cell, g1, g2, by rw [← hci.2]; exact g3⟩, fun U hU hWU => ⟨rfl, hWm.trans hWU, by rw [hU]; exact hw.1, by rw [hU]; exact zHS.B hT hw⟩⟩
  have hst0 : (as.reverse ++ .ref b :: st).map (ztv ad) = (as.map (ztv ad)).reverse ++ .ref (ad b) :: st.map (ztv ad) := by rw [List.map_append, List.map_reverse]; rfl
  rcases hlink with hlink | ⟨host, hlink⟩
  · refine zback hT hw hLo hst1 (va_runV (Ts := ztb) (C := m.1.cls) ⟨hT.1, hT.2.1, hT.2.2.1, hT.own, hT.ws⟩ (ct ad hoa) ⟨callB_of n hT.ws (zpay hm) rfl rfl rfl (hT.ws _ hm.2.1) (hT.ws _ hlink) hm.2.2.1 (zroom hkk hfr hlo hm.2.2.2 mc' ms'), hT.ws _ hins, hT.ws _ hsel⟩ hp rfl (by rw [List.length_map]; exact hn) (hLo.1.trans hL) hst0 (lv_room (by rw [zcat8]; exact h8)) hd ⟨by omega, by omega⟩) h
  · refine zback hT hw hLo hst1 (va_runVN (Ts := ztb) (C := m.1.cls) ⟨hT.1, hT.2.1, hT.2.2.1, hT.own, hT.ws⟩ (ct ad hoa) ⟨va_cnB n hT.ws (zpay hm) rfl rfl rfl (hT.nestM hlink) (hT.ws _ hm.2.1) hm.2.2.1 (zroom hkk hfr hlo hm.2.2.2 mc' ms'), hT.ws _ hins, hT.ws _ hsel⟩ hp rfl (by rw [List.length_map]; exact hn) (hLo.1.trans hL) hst0 (lv_room (by rw [zcat8]; exact h8)) hd ⟨by omega, by omega⟩) h
theorem J_callI (hY : zCy l Z τ M kk mc ms) {m : zM} {n k' mc' ms' idx b : Nat} {as stk : List Value} {Q' : Option Value → zMem → Prop} (hd : decode M.2.1 pc = .ok (.invokespecial idx, 3)) (hm : zMf m n) (hret : m.2.2.2 = none) (hini : m.1.name = "<init>") (hins : Cond.instanceMethod m.1 ∈ ztb) (hlink : Cond.methodLink M.1.cls idx m.1 ∈ ztb ∨ ∃ host, Cond.methodLinkNest M.1.cls idx m.1 host ∈ lw_tbl)
    (ct : zCt l Z m k' mc' ms' (.ref b :: as) μ Q') (hn : as.length = n) (hkk : k' < kk) (hs : stk = as.reverse ++ .ref b :: st) (hL : L.length = M.2.2.1) (h8 : (st.map fun v => v.category).sum ≤ 8) (hc : c + mc' ≤ mc) (hk : k + ms' ≤ ms)
    (h : ∀ (r : Option Value) (μ' : zMem), Q' r μ' → zJ τ F (pc + 3) L (r.toList ++ st) μ' (c + mc') (k + ms')) : zJ τ F pc L stk μ c k := by
  intro ad H locs ls hw hLo hst
  subst hs
  obtain ⟨hT, el, eZ⟩ := hY
  subst el; subst eZ
  obtain ⟨_, _, _, _, _, _, _, _, _, hWm, hB, hfr, hlo, hcc, hss⟩ := id hT
  have hst1 : zoks (zN μ) st := fun v hv => hst v (List.mem_append_right _ (List.mem_cons_of_mem _ hv))
  have hob : zok (zN μ) (.ref b) := hst _ (List.mem_append_right _ List.mem_cons_self)
  have hoa : zoks (zN μ) (.ref b :: as) := zoks_cons hob fun v hv => hst v (List.mem_append_left _ (List.mem_reverse.mpr hv))
  have hp : PreS τ.2.2.2.2.1 H (zPc τ.2.2.2.2.2.2.2.2.2.2.1 ad μ (.ref b :: as)) (.ref (ad b) :: as.map (ztv ad)) := ⟨zPc_blind _ _ _ _, fun U hU hWU => ⟨rfl, hWm.trans hWU, by rw [hU]; exact hw.1, by rw [hU]; exact zHS.B hT hw⟩⟩
  have hst0 : (as.reverse ++ .ref b :: st).map (ztv ad) = (as.map (ztv ad)).reverse ++ .ref (ad b) :: st.map (ztv ad) := by rw [List.map_append, List.map_reverse]; rfl
  obtain ⟨y, cb, mL, rt⟩ := m
  dsimp only at hret hini
  subst hret
  rcases hlink with hlink | ⟨host, hlink⟩
  · refine zback hT hw hLo hst1 (va_runI (Ts := ztb) ⟨hT.1, hT.2.1, hT.2.2.1, hT.own, hT.ws⟩ (ct ad hoa) ⟨callB_of n hT.ws (zpay hm) rfl rfl rfl (hT.ws _ hm.2.1) (hT.ws _ hlink) hm.2.2.1 (zroom hkk hfr hlo hm.2.2.2 mc' ms'), hini, hT.ws _ hins⟩ hp rfl (by rw [List.length_map]; exact hn) (hLo.1.trans hL) hst0 (lv_room (by rw [zcat8]; exact h8)) hd ⟨by omega, by omega⟩) h
  · refine zback hT hw hLo hst1 (va_runIN (Ts := ztb) ⟨hT.1, hT.2.1, hT.2.2.1, hT.own, hT.ws⟩ (ct ad hoa) ⟨va_cnB n hT.ws (zpay hm) rfl rfl rfl (hT.nestM hlink) (hT.ws _ hm.2.1) hm.2.2.1 (zroom hkk hfr hlo hm.2.2.2 mc' ms'), hini, hT.ws _ hins⟩ hp rfl (by rw [List.length_map]; exact hn) (hLo.1.trans hL) hst0 (lv_room (by rw [zcat8]; exact h8)) hd ⟨by omega, by omega⟩) h
end ZC

