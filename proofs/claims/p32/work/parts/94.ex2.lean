def zstrs : List (Nat × String) := [(66, "no letter of formulas"), (77, "the text is full"), (235, "no such cell, reading or service"), (95, "the text is no formula"), (113, "the cell would hang on itself"), (222, "as many steps as may be are kept"), (238, "a number is out of range"), (133, "the cell is not held"), (145, "a service does not need itself"), (156, "the service is not cut"), (161, "behind the last tick"), (163, "no step is kept")]
/-- what the start gives for throws -/
def zXs (Z : zZ) : Prop := vx_Zq Bundle.tN "UNASSIGNED_STACK" Bundle.steD (zA Z) Z.1 Z.1.heap ∧ vx_Zq Bundle.tN "SUPPRESSED_SENTINEL" Bundle.listD (zA Z) Z.1 Z.1.heap ∧ ∀ q, q ∈ zstrs → ∃ sa, vk_R "Daemonsheet" q.1 q.2 sa Z.1
/-- where a method has thrown -/
def zXC (Z : zZ) (ad : Nat → Nat) (n : Nat) (E : String) (Q : zMem → Prop) : String → State → State → Prop := fun E' st t => E' = E ∧ ∃ (μ' : zMem) (ad' : Nat → Nat), Q μ' ∧ (∀ a, a < n → ad' a = ad a) ∧ n ≤ zN μ' ∧ zH Z ad' μ' t.heap ∧ zB Z t.heap ∧ st.heap.size ≤ t.heap.size
def zCtX (l : Launch) (Z : zZ) (m : zM) (k mc ms : Nat) (a : List Value) (μ : zMem) (E : String) (Q : zMem → Prop) : Prop :=
  ∀ ad : Nat → Nat, zoks (zN μ) a → vx_Met l m.1 (zws1 m) (zrm k mc ms) (zPc Z ad μ a) (fun _ _ _ _ => False) (zXC Z ad (zN μ) E Q) mc ms (zA Z)
def zFx (τ : zT) (E : String) (Q : zMem → Prop) (mc ms : Nat) : State → Prop := vx_MQ τ.2.2.2.2.2.2.2.1 (fun _ _ _ _ => False) (zXC τ.2.2.2.2.2.2.2.2.2.2.1 τ.2.2.2.2.2.2.2.2.2.2.2.1 τ.2.2.2.2.2.2.2.2.2.2.2.2 E Q) τ.2.2.2.2.2.2.1 τ.2.2.2.2.1 mc ms (zA τ.2.2.2.2.2.2.2.2.2.2.1)
def zCyX (l : Launch) (Z : zZ) (τ : zT) (M : zM) (k mc ms : Nat) : Prop := zCy l Z τ M k mc ms ∧ ∀ x ∈ τ.2.2.2.2.2.2.2.2.2.1.exceptionTable.toList, False
theorem zCtX_of {l : Launch} {Z : zZ} (hZ : zSt l Z) {m : zM} {k mc ms : Nat} {a : List Value} {μ : zMem} {E : String} {Q : zMem → Prop} {L : List (Option Value)} (hy : plainName m.1.cls = true) (hlen : (lg_sl a).length ≤ m.2.2.1) (hL : zar a m.2.2.1 = L)
    (body : ∀ τ : zT, zCyX l Z τ m k mc ms → zJ τ (zFx τ E Q mc ms) 0 L [] μ 0 0) : zCtX l Z m k mc ms a μ E Q := by
  intro ad ho
  subst hL
  refine vx_ofW (cc := m.2.1) (maxL := m.2.2.1) (ret := m.2.2.2) hy rfl ?_
  intro p e s mm args below meth c s₁ B hml htb hv
  obtain ⟨rfl, hW, hH, hB⟩ := hv
  have hts := atoms_spec (ws := zws1 m) B.pre
  have hb := body (p, l, e, (headSpec (zws1 m) (zrm k mc ms)).room, s, mm, (a.map (ztv ad)).toArray, below, meth, c, Z, ad, zN μ)
    ⟨⟨⟨B.exec, B.bytes, hml, B.returns, findClass_of_methodNamed B.named, fun w hw => hts w (List.mem_cons_of_mem _ hw), B.notSynchronized, (name_of_methodNamed B.named B.method).1, hZ, hW, hB, Nat.le_refl _, Nat.le_refl _, Nat.le_refl _, Nat.le_refl _⟩, rfl, rfl⟩, htb⟩
    ad s.heap [] _ ⟨hH, va_S.rf, fun _ _ => rfl, Nat.le_refl _⟩ (zLo_entry hlen ho) (zoks_nil _)
  rw [lg_entry_eq]
  exact hb
theorem zH.kept {Z : zZ} {ad : Nat → Nat} {μ : zMem} {H H1 : Heap} (h : zH Z ad μ H) (hq : ∀ q : Nat, q < H.size → H1[q]? = H[q]?) : zH Z ad μ H1 :=
  ⟨h.1.kept (fun k q hk => hq _ (va_at.lt (h.1 k q hk))), h.2.1, h.2.2⟩
section ZX
variable {l : Launch} {Z : zZ} {τ : zT} {M : zM} {kk mc ms : Nat} {pc : Nat} {L : List (Option Value)} {st : List Value} {μ : zMem} {c k : Nat}
theorem zXs.str (hY : zCy l Z τ M kk mc ms) (hX : zXs Z) {q : Nat × String} (hq : q ∈ zstrs) : ∃ sa, vk_R "Daemonsheet" q.1 q.2 sa τ.2.2.2.2.1 := by
  obtain ⟨hT, el, eZ⟩ := hY
  subst el; subst eZ
  obtain ⟨_, _, _, _, _, _, _, _, _, hW, hB, _⟩ := hT
  obtain ⟨sa, h⟩ := hX.2.2 q hq
  exact ⟨sa, h.warm hW⟩
theorem zXs.zq (hY : zCy l Z τ M kk mc ms) (hX : zXs Z) : vx_Zq Bundle.tN "UNASSIGNED_STACK" Bundle.steD (zA τ.2.2.2.2.2.2.2.2.2.2.1) τ.2.2.2.2.1 τ.2.2.2.2.1.heap ∧ vx_Zq Bundle.tN "SUPPRESSED_SENTINEL" Bundle.listD (zA τ.2.2.2.2.2.2.2.2.2.2.1) τ.2.2.2.2.1 τ.2.2.2.2.1.heap := by
  obtain ⟨hT, el, eZ⟩ := hY
  subst el; subst eZ
  obtain ⟨_, _, _, _, _, _, _, _, _, hW, hB, _⟩ := hT
  have hq : ∀ a : Nat, a < τ.2.2.2.2.2.2.2.2.2.2.1.1.heap.size → ¬ zA τ.2.2.2.2.2.2.2.2.2.2.1 a → τ.2.2.2.2.1.heap[a]? = τ.2.2.2.2.2.2.2.2.2.2.1.1.heap[a]? := fun a ha _ => hB.2 a ha
  exact ⟨(hX.1.moved hW.alike).kept hq, (hX.2.1.moved hW.alike).kept hq⟩

set_option maxRecDepth 100000 in
theorem xf_iae : (vx_atS "Daemonsheet" 68 "java/lang/IllegalArgumentException" ["java/lang/RuntimeException", "java/lang/Exception"]).filter (fun w => !goodWord w) = [.declares ⟨"java/lang/RuntimeException", "<init>", "(Ljava/lang/String;)V"⟩, .declares ⟨"java/lang/Exception", "<init>", "(Ljava/lang/String;)V"⟩, .declares ⟨"java/lang/Throwable", "<init>", "(Ljava/lang/String;)V"⟩, .castable "java/lang/IllegalArgumentException" "java/lang/IllegalArgumentException"] := by decide +kernel
set_option maxRecDepth 100000 in
theorem xo_iae : ∀ w, w ∈ Cond.classLink "Daemonsheet" 64 "java/lang/IllegalArgumentException" :: Cond.initialized "java/lang/IllegalArgumentException" :: vx_atS "Daemonsheet" 68 "java/lang/IllegalArgumentException" ["java/lang/RuntimeException", "java/lang/Exception"] → vx_ot w = true := by decide +kernel
theorem xh_iae (hT : zCx τ M kk mc ms) : ∀ w ∈ vx_atS "Daemonsheet" 68 "java/lang/IllegalArgumentException" ["java/lang/RuntimeException", "java/lang/Exception"], w.before τ.2.2.2.2.2.2.1 τ.2.2.2.2.1 = true := by
  have hin : ∀ w, w ∈ vx_atS "Daemonsheet" 68 "java/lang/IllegalArgumentException" ["java/lang/RuntimeException", "java/lang/Exception"] → w ∈ lw_tbl := by
    rw [xw_iae]
    intro w hw
    obtain ⟨i, -, hi⟩ := List.mem_filterMap.mp hw
    exact List.mem_of_getElem? hi
  have hW := hT.2.2.2.2.2.2.2.2.2.1
  have hz := hT.2.2.2.2.2.2.2.2.1
  refine vx_hat (B := [.declares ⟨"java/lang/RuntimeException", "<init>", "(Ljava/lang/String;)V"⟩, .declares ⟨"java/lang/Exception", "<init>", "(Ljava/lang/String;)V"⟩, .declares ⟨"java/lang/Throwable", "<init>", "(Ljava/lang/String;)V"⟩, .castable "java/lang/IllegalArgumentException" "java/lang/IllegalArgumentException"]) (fun w hw => ?_) (fun w hw => by rw [← xf_iae]; exact hw) (fun w hw => ?_)
  · obtain ⟨h1, h2⟩ := List.mem_filter.mp hw
    exact hT.ws w (ztb_in (hin w h1) h2)
  · have hm : w ∈ vx_atS "Daemonsheet" 68 "java/lang/IllegalArgumentException" ["java/lang/RuntimeException", "java/lang/Exception"] := by
      have : w ∈ (vx_atS "Daemonsheet" 68 "java/lang/IllegalArgumentException" ["java/lang/RuntimeException", "java/lang/Exception"]).filter (fun w => !goodWord w) := by rw [xf_iae]; exact hw
      exact (List.mem_filter.mp this).1
    have hl := hin w hm
    simp only [List.mem_cons, List.not_mem_nil, or_false] at hw
    rcases hw with rfl | rfl | rfl | rfl
    · exact va_Nw.use rfl (va_Nw.warmD hW (hz.1 _ hl rfl))
    · exact va_Nw.use rfl (va_Nw.warmD hW (hz.1 _ hl rfl))
    · exact va_Nw.use rfl (va_Nw.warmD hW (hz.1 _ hl rfl))
    · exact va_Nw.use rfl (va_Nw.warmC hW (hz.1 _ hl rfl))

set_option maxRecDepth 20000 in
theorem xk_iae : Cond.classLink "Daemonsheet" 64 "java/lang/IllegalArgumentException" ∈ ztb := ztb_in (zc3 (List.mem_of_getElem? (i := 211) rfl)) rfl
set_option maxRecDepth 20000 in
theorem xi_iae : Cond.initialized "java/lang/IllegalArgumentException" ∈ ztb := ztb_in (zc1 (List.mem_of_getElem? (i := 20) rfl)) rfl
theorem J_throw_iae (hYX : zCyX l Z τ M kk mc ms) (hX : zXs Z) (hM : M.1.cls = "Daemonsheet") {is : Nat} {tx : String} (hq : (is, tx) ∈ zstrs) {Q : zMem → Prop}
    (d0 : decode M.2.1 pc = .ok (.new 64, 3)) (d3 : decode M.2.1 (pc + 3) = .ok (.dup, 1)) (d4 : decode M.2.1 (pc + 4) = .ok (.ldc is, 2)) (d6 : decode M.2.1 (pc + 6) = .ok (.invokespecial 68, 3)) (d9 : decode M.2.1 (pc + 9) = .ok (.athrow, 1))
    (hL : L.length = M.2.2.1) (h8 : (st.map fun v => v.category).sum ≤ 8) (hQ : Q μ) (hc : c + 1 ≤ mc) (hk : k + 6 ≤ ms) : zJ τ (zFx τ "java/lang/IllegalArgumentException" Q mc ms) pc L st μ c k := by
  obtain ⟨hY, htb⟩ := hYX
  obtain ⟨sa, hsa⟩ := hX.str hY hq
  obtain ⟨hU, hN⟩ := hX.zq hY
  obtain ⟨hT, el, eZ⟩ := hY
  intro ad H locs ls hw hLo hst
  obtain ⟨_, _, _, _, _, _, hlk, _, hz, hWm, hB, hfr, hlo, hcc, hss⟩ := id hT
  unfold zfr at hfr; unfold zlo at hlo
  refine vx_throwS (A := zA τ.2.2.2.2.2.2.2.2.2.2.1) (names := ["java/lang/RuntimeException", "java/lang/Exception"]) hT.1 hT.2.1 hz.2.2.1 (by rw [← hM]; exact hT.own) (by decide +kernel) (by decide +kernel) (hT.ws _ xk_iae) (hT.ws _ xi_iae) hsa (xh_iae hT) xo_iae hU hN hw.2.1 (by rw [hT.2.2.1, ← hL]; exact hLo.1) d0 d3 d4 d6 d9 (fun x hx => (htb x hx).elim) (by show 2 + 3 < _; omega) (by rw [zcat8]; show _ + (13 * (2 + 1) + 43) ≤ _; omega) (by omega) (by omega) hlk ?_ hw.2.1.2.2 hc hk
  intro t hal hsz hkp
  exact ⟨rfl, μ, ad, hQ, hw.2.2.1, hw.2.2.2, hw.1.kept hkp, ⟨Nat.le_trans (zHS.B hT hw).1 hsz, fun q hq => by rw [hkp q (Nat.lt_of_lt_of_le hq (zHS.B hT hw).1)]; exact (zHS.B hT hw).2 q hq⟩, Nat.le_trans hw.2.1.1 hsz⟩

set_option maxRecDepth 100000 in
theorem xf_ise : (vx_atS "Daemonsheet" 79 "java/lang/IllegalStateException" ["java/lang/RuntimeException", "java/lang/Exception"]).filter (fun w => !goodWord w) = [.declares ⟨"java/lang/RuntimeException", "<init>", "(Ljava/lang/String;)V"⟩, .declares ⟨"java/lang/Exception", "<init>", "(Ljava/lang/String;)V"⟩, .declares ⟨"java/lang/Throwable", "<init>", "(Ljava/lang/String;)V"⟩, .castable "java/lang/IllegalStateException" "java/lang/IllegalStateException"] := by decide +kernel
set_option maxRecDepth 100000 in
theorem xo_ise : ∀ w, w ∈ Cond.classLink "Daemonsheet" 75 "java/lang/IllegalStateException" :: Cond.initialized "java/lang/IllegalStateException" :: vx_atS "Daemonsheet" 79 "java/lang/IllegalStateException" ["java/lang/RuntimeException", "java/lang/Exception"] → vx_ot w = true := by decide +kernel
theorem xh_ise (hT : zCx τ M kk mc ms) : ∀ w ∈ vx_atS "Daemonsheet" 79 "java/lang/IllegalStateException" ["java/lang/RuntimeException", "java/lang/Exception"], w.before τ.2.2.2.2.2.2.1 τ.2.2.2.2.1 = true := by
  have hin : ∀ w, w ∈ vx_atS "Daemonsheet" 79 "java/lang/IllegalStateException" ["java/lang/RuntimeException", "java/lang/Exception"] → w ∈ lw_tbl := by
    rw [xw_ise]
    intro w hw
    obtain ⟨i, -, hi⟩ := List.mem_filterMap.mp hw
    exact List.mem_of_getElem? hi
  have hW := hT.2.2.2.2.2.2.2.2.2.1
  have hz := hT.2.2.2.2.2.2.2.2.1
  refine vx_hat (B := [.declares ⟨"java/lang/RuntimeException", "<init>", "(Ljava/lang/String;)V"⟩, .declares ⟨"java/lang/Exception", "<init>", "(Ljava/lang/String;)V"⟩, .declares ⟨"java/lang/Throwable", "<init>", "(Ljava/lang/String;)V"⟩, .castable "java/lang/IllegalStateException" "java/lang/IllegalStateException"]) (fun w hw => ?_) (fun w hw => by rw [← xf_ise]; exact hw) (fun w hw => ?_)
  · obtain ⟨h1, h2⟩ := List.mem_filter.mp hw
    exact hT.ws w (ztb_in (hin w h1) h2)
  · have hm : w ∈ vx_atS "Daemonsheet" 79 "java/lang/IllegalStateException" ["java/lang/RuntimeException", "java/lang/Exception"] := by
      have : w ∈ (vx_atS "Daemonsheet" 79 "java/lang/IllegalStateException" ["java/lang/RuntimeException", "java/lang/Exception"]).filter (fun w => !goodWord w) := by rw [xf_ise]; exact hw
      exact (List.mem_filter.mp this).1
    have hl := hin w hm
    simp only [List.mem_cons, List.not_mem_nil, or_false] at hw
    rcases hw with rfl | rfl | rfl | rfl
    · exact va_Nw.use rfl (va_Nw.warmD hW (hz.1 _ hl rfl))
    · exact va_Nw.use rfl (va_Nw.warmD hW (hz.1 _ hl rfl))
    · exact va_Nw.use rfl (va_Nw.warmD hW (hz.1 _ hl rfl))
    · exact va_Nw.use rfl (va_Nw.warmC hW (hz.1 _ hl rfl))

set_option maxRecDepth 20000 in
theorem xk_ise : Cond.classLink "Daemonsheet" 75 "java/lang/IllegalStateException" ∈ ztb := ztb_in (zc2 (List.mem_of_getElem? (i := 73) rfl)) rfl
set_option maxRecDepth 20000 in
theorem xi_ise : Cond.initialized "java/lang/IllegalStateException" ∈ ztb := ztb_in (zc1 (List.mem_of_getElem? (i := 21) rfl)) rfl
theorem J_throw_ise (hYX : zCyX l Z τ M kk mc ms) (hX : zXs Z) (hM : M.1.cls = "Daemonsheet") {is : Nat} {tx : String} (hq : (is, tx) ∈ zstrs) {Q : zMem → Prop}
    (d0 : decode M.2.1 pc = .ok (.new 75, 3)) (d3 : decode M.2.1 (pc + 3) = .ok (.dup, 1)) (d4 : decode M.2.1 (pc + 4) = .ok (.ldc is, 2)) (d6 : decode M.2.1 (pc + 6) = .ok (.invokespecial 79, 3)) (d9 : decode M.2.1 (pc + 9) = .ok (.athrow, 1))
    (hL : L.length = M.2.2.1) (h8 : (st.map fun v => v.category).sum ≤ 8) (hQ : Q μ) (hc : c + 1 ≤ mc) (hk : k + 6 ≤ ms) : zJ τ (zFx τ "java/lang/IllegalStateException" Q mc ms) pc L st μ c k := by
  obtain ⟨hY, htb⟩ := hYX
  obtain ⟨sa, hsa⟩ := hX.str hY hq
  obtain ⟨hU, hN⟩ := hX.zq hY
  obtain ⟨hT, el, eZ⟩ := hY
  intro ad H locs ls hw hLo hst
  obtain ⟨_, _, _, _, _, _, hlk, _, hz, hWm, hB, hfr, hlo, hcc, hss⟩ := id hT
  unfold zfr at hfr; unfold zlo at hlo
  refine vx_throwS (A := zA τ.2.2.2.2.2.2.2.2.2.2.1) (names := ["java/lang/RuntimeException", "java/lang/Exception"]) hT.1 hT.2.1 hz.2.2.1 (by rw [← hM]; exact hT.own) (by decide +kernel) (by decide +kernel) (hT.ws _ xk_ise) (hT.ws _ xi_ise) hsa (xh_ise hT) xo_ise hU hN hw.2.1 (by rw [hT.2.2.1, ← hL]; exact hLo.1) d0 d3 d4 d6 d9 (fun x hx => (htb x hx).elim) (by show 2 + 3 < _; omega) (by rw [zcat8]; show _ + (13 * (2 + 1) + 43) ≤ _; omega) (by omega) (by omega) hlk ?_ hw.2.1.2.2 hc hk
  intro t hal hsz hkp
  exact ⟨rfl, μ, ad, hQ, hw.2.2.1, hw.2.2.2, hw.1.kept hkp, ⟨Nat.le_trans (zHS.B hT hw).1 hsz, fun q hq => by rw [hkp q (Nat.lt_of_lt_of_le hq (zHS.B hT hw).1)]; exact (zHS.B hT hw).2 q hq⟩, Nat.le_trans hw.2.1.1 hsz⟩

set_option maxRecDepth 100000 in
theorem xf_iob : (vx_atS "Daemonsheet" 237 "java/lang/IndexOutOfBoundsException" ["java/lang/RuntimeException", "java/lang/Exception"]).filter (fun w => !goodWord w) = [.declares ⟨"java/lang/RuntimeException", "<init>", "(Ljava/lang/String;)V"⟩, .declares ⟨"java/lang/Exception", "<init>", "(Ljava/lang/String;)V"⟩, .declares ⟨"java/lang/Throwable", "<init>", "(Ljava/lang/String;)V"⟩, .castable "java/lang/IndexOutOfBoundsException" "java/lang/IndexOutOfBoundsException"] := by decide +kernel
set_option maxRecDepth 100000 in
theorem xo_iob : ∀ w, w ∈ Cond.classLink "Daemonsheet" 233 "java/lang/IndexOutOfBoundsException" :: Cond.initialized "java/lang/IndexOutOfBoundsException" :: vx_atS "Daemonsheet" 237 "java/lang/IndexOutOfBoundsException" ["java/lang/RuntimeException", "java/lang/Exception"] → vx_ot w = true := by decide +kernel
theorem xh_iob (hT : zCx τ M kk mc ms) : ∀ w ∈ vx_atS "Daemonsheet" 237 "java/lang/IndexOutOfBoundsException" ["java/lang/RuntimeException", "java/lang/Exception"], w.before τ.2.2.2.2.2.2.1 τ.2.2.2.2.1 = true := by
  have hin : ∀ w, w ∈ vx_atS "Daemonsheet" 237 "java/lang/IndexOutOfBoundsException" ["java/lang/RuntimeException", "java/lang/Exception"] → w ∈ lw_tbl := by
    rw [xw_iob]
    intro w hw
    obtain ⟨i, -, hi⟩ := List.mem_filterMap.mp hw
    exact List.mem_of_getElem? hi
  have hW := hT.2.2.2.2.2.2.2.2.2.1
  have hz := hT.2.2.2.2.2.2.2.2.1
  refine vx_hat (B := [.declares ⟨"java/lang/RuntimeException", "<init>", "(Ljava/lang/String;)V"⟩, .declares ⟨"java/lang/Exception", "<init>", "(Ljava/lang/String;)V"⟩, .declares ⟨"java/lang/Throwable", "<init>", "(Ljava/lang/String;)V"⟩, .castable "java/lang/IndexOutOfBoundsException" "java/lang/IndexOutOfBoundsException"]) (fun w hw => ?_) (fun w hw => by rw [← xf_iob]; exact hw) (fun w hw => ?_)
  · obtain ⟨h1, h2⟩ := List.mem_filter.mp hw
    exact hT.ws w (ztb_in (hin w h1) h2)
  · have hm : w ∈ vx_atS "Daemonsheet" 237 "java/lang/IndexOutOfBoundsException" ["java/lang/RuntimeException", "java/lang/Exception"] := by
      have : w ∈ (vx_atS "Daemonsheet" 237 "java/lang/IndexOutOfBoundsException" ["java/lang/RuntimeException", "java/lang/Exception"]).filter (fun w => !goodWord w) := by rw [xf_iob]; exact hw
      exact (List.mem_filter.mp this).1
    have hl := hin w hm
    simp only [List.mem_cons, List.not_mem_nil, or_false] at hw
    rcases hw with rfl | rfl | rfl | rfl
    · exact va_Nw.use rfl (va_Nw.warmD hW (hz.1 _ hl rfl))
    · exact va_Nw.use rfl (va_Nw.warmD hW (hz.1 _ hl rfl))
    · exact va_Nw.use rfl (va_Nw.warmD hW (hz.1 _ hl rfl))
    · exact va_Nw.use rfl (va_Nw.warmC hW (hz.1 _ hl rfl))

set_option maxRecDepth 20000 in
theorem xk_iob : Cond.classLink "Daemonsheet" 233 "java/lang/IndexOutOfBoundsException" ∈ ztb := ztb_in (zc3 (List.mem_of_getElem? (i := 55) rfl)) rfl
set_option maxRecDepth 20000 in
theorem xi_iob : Cond.initialized "java/lang/IndexOutOfBoundsException" ∈ ztb := ztb_in (zc1 (List.mem_of_getElem? (i := 13) rfl)) rfl
theorem J_throw_iob (hYX : zCyX l Z τ M kk mc ms) (hX : zXs Z) (hM : M.1.cls = "Daemonsheet") {is : Nat} {tx : String} (hq : (is, tx) ∈ zstrs) {Q : zMem → Prop}
    (d0 : decode M.2.1 pc = .ok (.new 233, 3)) (d3 : decode M.2.1 (pc + 3) = .ok (.dup, 1)) (d4 : decode M.2.1 (pc + 4) = .ok (.ldc is, 2)) (d6 : decode M.2.1 (pc + 6) = .ok (.invokespecial 237, 3)) (d9 : decode M.2.1 (pc + 9) = .ok (.athrow, 1))
    (hL : L.length = M.2.2.1) (h8 : (st.map fun v => v.category).sum ≤ 8) (hQ : Q μ) (hc : c + 1 ≤ mc) (hk : k + 6 ≤ ms) : zJ τ (zFx τ "java/lang/IndexOutOfBoundsException" Q mc ms) pc L st μ c k := by
  obtain ⟨hY, htb⟩ := hYX
  obtain ⟨sa, hsa⟩ := hX.str hY hq
  obtain ⟨hU, hN⟩ := hX.zq hY
  obtain ⟨hT, el, eZ⟩ := hY
  intro ad H locs ls hw hLo hst
  obtain ⟨_, _, _, _, _, _, hlk, _, hz, hWm, hB, hfr, hlo, hcc, hss⟩ := id hT
  unfold zfr at hfr; unfold zlo at hlo
  refine vx_throwS (A := zA τ.2.2.2.2.2.2.2.2.2.2.1) (names := ["java/lang/RuntimeException", "java/lang/Exception"]) hT.1 hT.2.1 hz.2.2.1 (by rw [← hM]; exact hT.own) (by decide +kernel) (by decide +kernel) (hT.ws _ xk_iob) (hT.ws _ xi_iob) hsa (xh_iob hT) xo_iob hU hN hw.2.1 (by rw [hT.2.2.1, ← hL]; exact hLo.1) d0 d3 d4 d6 d9 (fun x hx => (htb x hx).elim) (by show 2 + 3 < _; omega) (by rw [zcat8]; show _ + (13 * (2 + 1) + 43) ≤ _; omega) (by omega) (by omega) hlk ?_ hw.2.1.2.2 hc hk
  intro t hal hsz hkp
  exact ⟨rfl, μ, ad, hQ, hw.2.2.1, hw.2.2.2, hw.1.kept hkp, ⟨Nat.le_trans (zHS.B hT hw).1 hsz, fun q hq => by rw [hkp q (Nat.lt_of_lt_of_le hq (zHS.B hT hw).1)]; exact (zHS.B hT hw).2 q hq⟩, Nat.le_trans hw.2.1.1 hsz⟩

theorem J_callSX (hYX : zCyX l Z τ M kk mc ms) {m : zM} {n k' mc' ms' idx : Nat} {as stk : List Value} {E : String} {Q : zMem → Prop} (hd : decode M.2.1 pc = .ok (.invokestatic idx, 3)) (hm : zMf m n) (hsta : Cond.static m.1 ∈ ztb) (hlink : Cond.methodLink M.1.cls idx m.1 ∈ ztb ∨ ∃ host, Cond.methodLinkNest M.1.cls idx m.1 host ∈ lw_tbl)
    (ct : zCtX l Z m k' mc' ms' as μ E Q) (hn : as.length = n) (hkk : k' < kk) (hs : stk = as.reverse ++ st) (hL : L.length = M.2.2.1) (h8 : (st.map fun v => v.category).sum ≤ 8) (hc : c + mc' ≤ mc) (hk : k + ms' ≤ ms) (hl1 : Cond.methodLink M.1.cls idx m.1 ∈ ztb) : zJ τ (zFx τ E Q mc ms) pc L stk μ c k := by
  intro ad H locs ls hw hLo hst
  subst hs
  obtain ⟨⟨hT, el, eZ⟩, htb⟩ := hYX
  subst el; subst eZ
  obtain ⟨_, _, _, _, _, _, hlk, _, _, hWm, hB, hfr, hlo, hcc, hss⟩ := id hT
  have hoa : zoks (zN μ) as := fun v hv => hst v (List.mem_append_left _ (List.mem_reverse.mpr hv))
  have hp : PreS τ.2.2.2.2.1 H (zPc τ.2.2.2.2.2.2.2.2.2.2.1 ad μ as) (as.map (ztv ad)) := ⟨zPc_blind _ _ _ _, fun U hU hWU => ⟨rfl, hWm.trans hWU, by rw [hU]; exact hw.1, by rw [hU]; exact zHS.B hT hw⟩⟩
  have hst0 : (as.reverse ++ st).map (ztv ad) = (as.map (ztv ad)).reverse ++ st.map (ztv ad) := by rw [List.map_append, List.map_reverse]
  have hr : vx_Run τ.1 τ.2.1 τ.2.2.1 τ.2.2.2.1 τ.2.2.2.2.1 τ.2.2.2.2.2.1 τ.2.2.2.2.2.2.1 τ.2.2.2.2.2.2.2.1 τ.2.2.2.2.2.2.2.2.1 τ.2.2.2.2.2.2.2.2.2.1 H locs c k mc' ms' (zF0 τ pc ls ((as.reverse ++ st).map (ztv ad))) (st.map (ztv ad)) (fun _ _ _ => False) (zXC τ.2.2.2.2.2.2.2.2.2.2.1 ad (zN μ) E Q) (zA τ.2.2.2.2.2.2.2.2.2.2.1) := vx_runS (Ts := ztb) ⟨hT.1, hT.2.1, hT.2.2.1, hT.own, hT.ws⟩ (ct ad hoa) ⟨callB_of n hT.ws (zpay hm) rfl rfl rfl (hT.ws _ hm.2.1) (hT.ws _ hl1) hm.2.2.1 (zroom hkk hfr hlo hm.2.2.2 mc' ms'), hT.ws _ hsta⟩ hp (g := zF0 τ pc ls ((as.reverse ++ st).map (ztv ad))) (locs := locs) (cells := c) (slots := k) rfl (by rw [List.length_map]; exact hn) (hLo.1.trans hL) hst0 (lv_room (by rw [zcat8]; exact h8)) hd ⟨by omega, by omega⟩
  intro T hTh X
  rcases hr T hTh X with ⟨_, _, _, _, _, _, _, _, _, _, hf, _⟩ | ⟨q, st₀, t, T', L', E', ce, h0, X', hL', e1, e2, hxc, hce, hcv, hcl, hgo⟩
  · exact hf.elim
  · obtain ⟨rfl, μ', ad', q1, q2, q3, q4, q5, q6⟩ := hxc
    have hS : va_S (zA τ.2.2.2.2.2.2.2.2.2.2.1) τ.2.2.2.2.1.heap T'.heap (locs ++ L') := by
      refine ⟨Nat.le_trans hw.2.1.1 (by rw [e1, ← h0]; exact q6), fun q g1 g2 => ?_, fun q hq => ?_⟩
      · have hlt : q < τ.2.2.2.2.2.2.2.2.2.2.1.1.heap.size := Nat.not_le.mp g2
        rw [e1, q5.2 q hlt, hB.2 q hlt]
      · rcases List.mem_append.mp hq with g | g
        · exact hw.2.1.2.2 q g
        · exact hL' q g
    have ho := vx_out (H := T'.heap) (q := q) (s := τ.2.2.2.2.1) (m := τ.2.2.2.2.2.1) (e := τ.2.2.1) (meth := τ.2.2.2.2.2.2.2.2.1) (c := τ.2.2.2.2.2.2.2.2.2.1) (locs := locs ++ L') (cells := c + mc') (slots := k + ms') (p := τ.1) (l := τ.2.1) (R := τ.2.2.2.1) (args := τ.2.2.2.2.2.2.1) (below := τ.2.2.2.2.2.2.2.1) (ls := ls) (rest := st.map (ztv ad)) (pc := pc) (Qc := fun _ _ _ _ => False) (XC := zXC τ.2.2.2.2.2.2.2.2.2.2.1 τ.2.2.2.2.2.2.2.2.2.2.2.1 τ.2.2.2.2.2.2.2.2.2.2.2.2 E' Q) (mc := mc) (ms := ms) (free := zA τ.2.2.2.2.2.2.2.2.2.2.1) (E := E') (fun x hx => (htb x hx).elim) hlk (by rw [e1]; exact hce) hcv hcl (fun t2 ht2 _ => ⟨rfl, μ', ad', q1, fun a ha => (q2 a (Nat.lt_of_lt_of_le ha hw.2.2.2)).trans (hw.2.2.1 a ha), Nat.le_trans hw.2.2.2 q3, by rw [ht2, e1]; exact q4, by rw [ht2, e1]; exact q5, by rw [ht2]; exact hS.1⟩) hS.2.2 hc hk
    obtain ⟨t2, a1, b1⟩ := ho T' rfl X'
    exact ⟨t2, hgo.trans a1, b1⟩

theorem J_callVX (hYX : zCyX l Z τ M kk mc ms) {m : zM} {n k' mc' ms' idx b ci : Nat} {as stk : List Value} {E : String} {Q : zMem → Prop} (hd : decode M.2.1 pc = .ok (.invokevirtual idx, 3)) (hm : zMf m n) (hins : Cond.instanceMethod m.1 ∈ ztb) (hsel : Cond.selects m.1.cls m.1 m.1 ∈ ztb)
    (hci : ci < 9 ∧ zRX ci = m.1.cls) (hb : zK μ b = ci + 8) (ct : zCtX l Z m k' mc' ms' (.ref b :: as) μ E Q) (hn : as.length = n) (hkk : k' < kk) (hs : stk = as.reverse ++ .ref b :: st) (hL : L.length = M.2.2.1) (h8 : (st.map fun v => v.category).sum ≤ 8) (hc : c + mc' ≤ mc) (hk : k + ms' ≤ ms) (hl1 : Cond.methodLink M.1.cls idx m.1 ∈ ztb) : zJ τ (zFx τ E Q mc ms) pc L stk μ c k := by
  intro ad H locs ls hw hLo hst
  subst hs
  obtain ⟨⟨hT, el, eZ⟩, htb⟩ := hYX
  subst el; subst eZ
  obtain ⟨_, _, _, _, _, _, hlk, _, _, hWm, hB, hfr, hlo, hcc, hss⟩ := id hT
  have hob : zok (zN μ) (.ref b) := hst _ (List.mem_append_right _ List.mem_cons_self)
  have hoa : zoks (zN μ) (.ref b :: as) := zoks_cons hob fun v hv => hst v (List.mem_append_left _ (List.mem_reverse.mpr hv))
  have he := zws_at τ.2.2.2.2.2.2.2.2.2.2.1.2.2 ad μ (zok_lt hob)
  rw [zent_o hb] at he
  obtain ⟨cell, g1, g2, g3⟩ := va_recv hT.K hw.1.1 (zcl_at ci hci.1) he
  have hp : PreV τ.2.2.2.2.1 H m.1.cls (ad b) (zPc τ.2.2.2.2.2.2.2.2.2.2.1 ad μ (.ref b :: as)) (as.map (ztv ad)) := ⟨zPc_blind _ _ _ _, ⟨cell, g1, g2, by rw [← hci.2]; exact g3⟩, fun U hU hWU => ⟨rfl, hWm.trans hWU, by rw [hU]; exact hw.1, by rw [hU]; exact zHS.B hT hw⟩⟩
  have hst0 : (as.reverse ++ .ref b :: st).map (ztv ad) = (as.map (ztv ad)).reverse ++ .ref (ad b) :: st.map (ztv ad) := by rw [List.map_append, List.map_reverse]; rfl
  have hr : vx_Run τ.1 τ.2.1 τ.2.2.1 τ.2.2.2.1 τ.2.2.2.2.1 τ.2.2.2.2.2.1 τ.2.2.2.2.2.2.1 τ.2.2.2.2.2.2.2.1 τ.2.2.2.2.2.2.2.2.1 τ.2.2.2.2.2.2.2.2.2.1 H locs c k mc' ms' (zF0 τ pc ls ((as.reverse ++ .ref b :: st).map (ztv ad))) (st.map (ztv ad)) (fun _ _ _ => False) (zXC τ.2.2.2.2.2.2.2.2.2.2.1 ad (zN μ) E Q) (zA τ.2.2.2.2.2.2.2.2.2.2.1) := vx_runV (Ts := ztb) (C := m.1.cls) ⟨hT.1, hT.2.1, hT.2.2.1, hT.own, hT.ws⟩ (ct ad hoa) ⟨callB_of n hT.ws (zpay hm) rfl rfl rfl (hT.ws _ hm.2.1) (hT.ws _ hl1) hm.2.2.1 (zroom hkk hfr hlo hm.2.2.2 mc' ms'), hT.ws _ hins, hT.ws _ hsel⟩ hp (g := zF0 τ pc ls ((as.reverse ++ .ref b :: st).map (ztv ad))) (locs := locs) (cells := c) (slots := k) rfl (by rw [List.length_map]; exact hn) (hLo.1.trans hL) hst0 (lv_room (by rw [zcat8]; exact h8)) hd ⟨by omega, by omega⟩
  intro T hTh X
  rcases hr T hTh X with ⟨_, _, _, _, _, _, _, _, _, _, hf, _⟩ | ⟨q, st₀, t, T', L', E', ce, h0, X', hL', e1, e2, hxc, hce, hcv, hcl, hgo⟩
  · exact hf.elim
  · obtain ⟨rfl, μ', ad', q1, q2, q3, q4, q5, q6⟩ := hxc
    have hS : va_S (zA τ.2.2.2.2.2.2.2.2.2.2.1) τ.2.2.2.2.1.heap T'.heap (locs ++ L') := by
      refine ⟨Nat.le_trans hw.2.1.1 (by rw [e1, ← h0]; exact q6), fun q g1 g2 => ?_, fun q hq => ?_⟩
      · have hlt : q < τ.2.2.2.2.2.2.2.2.2.2.1.1.heap.size := Nat.not_le.mp g2
        rw [e1, q5.2 q hlt, hB.2 q hlt]
      · rcases List.mem_append.mp hq with g | g
        · exact hw.2.1.2.2 q g
        · exact hL' q g
    have ho := vx_out (H := T'.heap) (q := q) (s := τ.2.2.2.2.1) (m := τ.2.2.2.2.2.1) (e := τ.2.2.1) (meth := τ.2.2.2.2.2.2.2.2.1) (c := τ.2.2.2.2.2.2.2.2.2.1) (locs := locs ++ L') (cells := c + mc') (slots := k + ms') (p := τ.1) (l := τ.2.1) (R := τ.2.2.2.1) (args := τ.2.2.2.2.2.2.1) (below := τ.2.2.2.2.2.2.2.1) (ls := ls) (rest := st.map (ztv ad)) (pc := pc) (Qc := fun _ _ _ _ => False) (XC := zXC τ.2.2.2.2.2.2.2.2.2.2.1 τ.2.2.2.2.2.2.2.2.2.2.2.1 τ.2.2.2.2.2.2.2.2.2.2.2.2 E' Q) (mc := mc) (ms := ms) (free := zA τ.2.2.2.2.2.2.2.2.2.2.1) (E := E') (fun x hx => (htb x hx).elim) hlk (by rw [e1]; exact hce) hcv hcl (fun t2 ht2 _ => ⟨rfl, μ', ad', q1, fun a ha => (q2 a (Nat.lt_of_lt_of_le ha hw.2.2.2)).trans (hw.2.2.1 a ha), Nat.le_trans hw.2.2.2 q3, by rw [ht2, e1]; exact q4, by rw [ht2, e1]; exact q5, by rw [ht2]; exact hS.1⟩) hS.2.2 hc hk
    obtain ⟨t2, a1, b1⟩ := ho T' rfl X'
    exact ⟨t2, hgo.trans a1, b1⟩

end ZX

