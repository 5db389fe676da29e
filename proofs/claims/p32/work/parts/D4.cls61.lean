/-! ===== the law's wrappers: a call in a try ===== -/
abbrev zHh : Type := List (Nat × Nat × Nat × Nat)
def zMw (m : zM) (hh : zHh) (n : Nat) : Prop := Cond.codeWith m.1 m.2.1 m.2.2.1 m.2.2.2 hh ∈ ztb ∧ Cond.initialized m.1.cls ∈ ztb ∧ (m.1.cls ≠ "java/lang/invoke/MethodHandle" ∧ m.1.cls ≠ "java/lang/invoke/VarHandle" ∧ (parseMethodDescriptor m.1.desc).map (fun d => d.parameters.length) = some n) ∧ m.2.2.1 ≤ 60
def zwsw (m : zM) (hh : zHh) : List Cond := .codeWith m.1 m.2.1 m.2.2.1 m.2.2.2 hh :: ztb
def zCtW (l : Launch) (Z : zZ) (m : zM) (hh : zHh) (k mc ms : Nat) (a : List Value) (μ : zMem) (Q : Option Value → zMem → Prop) : Prop :=
  ∀ ad : Nat → Nat, zoks (zN μ) a → Met l m.1 (zwsw m hh) (zrm k mc ms) (zPc Z ad μ a) (zQc Z ad (zN μ) Q) mc ms (zA Z)
def zCyW (l : Launch) (Z : zZ) (τ : zT) (M : zM) (hh : zHh) (k mc ms : Nat) : Prop := zCy l Z τ M k mc ms ∧ τ.2.2.2.2.2.2.2.2.2.1.exceptionTable.toList = tableOf hh
theorem zCtW_of {l : Launch} {Z : zZ} (hZ : zSt l Z) {m : zM} {hh : zHh} {k mc ms : Nat} {a : List Value} {μ : zMem} {Q : Option Value → zMem → Prop} {L : List (Option Value)} (hy : plainName m.1.cls = true) (hlen : (lg_sl a).length ≤ m.2.2.1) (hL : zar a m.2.2.1 = L)
    (body : ∀ τ : zT, zCyW l Z τ m hh k mc ms → zJ τ (zFn τ Q mc ms) 0 L [] μ 0 0) : zCtW l Z m hh k mc ms a μ Q := by
  intro ad ho
  subst hL
  refine va_MetW (cc := m.2.1) (maxL := m.2.2.1) (ret := m.2.2.2) (hh := hh) hy rfl ?_
  intro p e s mm args below meth c s₁ B hml hv
  obtain ⟨rfl, hW, hH, hB⟩ := hv
  have hts := atoms_spec (ws := zwsw m hh) B.pre
  have htab := vx_table (x := m.1) B (hts _ List.mem_cons_self)
  have hb := body (p, l, e, (headSpec (zwsw m hh) (zrm k mc ms)).room, s, mm, (a.map (ztv ad)).toArray, below, meth, c, Z, ad, zN μ)
    ⟨⟨⟨B.exec, B.bytes, hml, B.returns, findClass_of_methodNamed B.named, fun w hw => hts w (List.mem_cons_of_mem _ hw), B.notSynchronized, (name_of_methodNamed B.named B.method).1, hZ, hW, hB, Nat.le_refl _, Nat.le_refl _, Nat.le_refl _, Nat.le_refl _⟩, rfl, rfl⟩, htab⟩
    ad s.heap [] _ ⟨hH, va_S.rf, fun _ _ => rfl, Nat.le_refl _⟩ (zLo_entry hlen ho) (zoks_nil _)
  rw [lg_entry_eq]
  exact hb
/-- an unnamed thing is stored at a place -/
def zst0 (L : List (Option Value)) (i : Nat) : List (Option Value) := (zst1 L i .null).set i none
theorem zst0_len (L : List (Option Value)) (i : Nat) : (zst0 L i).length = L.length := by simp [zst0, zst1_len]
theorem zLo_st0 {ad : Nat → Nat} {n i : Nat} {L : List (Option Value)} {ls ls' : Array Slot} {w0 : Value} (h : zLo ad n L ls)
    (h' : lv_has ls' L.length ((i, w0) :: (zlv ad L).filter (fun q => !(q.1 == i) && !(q.1 + 1 == i && q.2.category == 2)))) : zLo ad n (zst0 L i) ls' := by
  refine ⟨by rw [h'.1, zst0_len], h'.2.1, fun j w hw => ?_⟩
  unfold zst0 at hw
  rw [List.getElem?_set] at hw
  by_cases hj : i = j
  · rw [if_pos hj] at hw
    split at hw <;> cases hw
  · rw [if_neg hj] at hw
    rcases zst1_at hw with ⟨e, _⟩ | ⟨h1, h2, h3⟩
    · exact absurd e.symm hj
    · refine ⟨h'.2.2 (j, ztv ad w) (List.mem_cons_of_mem _ (List.mem_filter.mpr ⟨zlv_mem h2, ?_⟩)), (h.2.2 j w h2).2⟩
      simp only [ztv_cat, Bool.and_eq_true, Bool.not_eq_true', beq_eq_false_iff_ne, Bool.and_eq_false_iff, ne_eq]
      refine ⟨h1, ?_⟩
      by_cases hq : j + 1 = i
      · exact Or.inr fun q => h3 ⟨hq, q⟩
      · exact Or.inl hq
/-- what throws name no other class's handler, by the start -/
def zNs (Z : zZ) : Prop := va_Nc "java/lang/IllegalArgumentException" "java/lang/IndexOutOfBoundsException" Z.1 ∧ va_Nc "java/lang/IllegalStateException" "java/lang/IndexOutOfBoundsException" Z.1 ∧ va_Nc "java/lang/IllegalStateException" "java/lang/IllegalArgumentException" Z.1
section ZW
variable {l : Launch} {Z : zZ} {τ : zT} {M : zM} {hh : zHh} {kk mc ms : Nat} {F : State → Prop} {pc : Nat} {L : List (Option Value)} {st : List Value} {μ : zMem} {c k : Nat}
theorem J_callVC (hYW : zCyW l Z τ M hh kk mc ms) {m : zM} {n k' mc' ms' idx b ci i hpc nx : Nat} {as stk : List Value} {E : String} {Q : zMem → Prop} (hd : decode M.2.1 pc = .ok (.invokevirtual idx, 3)) (hm : zMf m n) (hins : Cond.instanceMethod m.1 ∈ ztb) (hsel : Cond.selects m.1.cls m.1 m.1 ∈ ztb)
    (hci : ci < 9 ∧ zRX ci = m.1.cls) (hb : zK μ b = ci + 8) (ct : zCtX l Z m k' mc' ms' (.ref b :: as) μ E Q) (hn : as.length = n) (hkk : k' < kk) (hs : stk = as.reverse ++ .ref b :: st) (hL : L.length = M.2.2.1) (h8 : (st.map fun v => v.category).sum ≤ 8) (hc : c + mc' ≤ mc) (hk : k + ms' ≤ ms) (hl1 : Cond.methodLink M.1.cls idx m.1 ∈ ztb)
    (pre suf : zHh) (ct0 x0 x1 : Nat) (hsplit : hh = pre ++ (x0, x1, hpc, ct0) :: suf) (hpass : ∀ z ∈ pre, z.2.2.2 ≠ 0 ∧ ∃ nm : String, Cond.classLink M.1.cls z.2.2.2 nm ∈ ztb ∧ va_Nc E nm Z.1) (hcov : x0 ≤ pc ∧ pc < x1) (h0 : ct0 ≠ 0) (hlink : Cond.classLink M.1.cls ct0 E ∈ ztb) (hcast : Cond.castable E E ∈ lw_tbl)
    (hst : (∃ q : Fin 4, decode M.2.1 hpc = .ok (.astore_n q, 1) ∧ (q : Nat) = i ∧ nx = hpc + 1) ∨ (decode M.2.1 hpc = .ok (.astore i, 2) ∧ nx = hpc + 2)) (hi : i < L.length)
    (h : ∀ μ', Q μ' → zJ τ F nx (zst0 L i) [] μ' (c + mc') (k + ms')) : zJ τ F pc L stk μ c k := by
  intro ad H locs ls hw hLo hst0
  subst hs
  obtain ⟨⟨hT, el, eZ⟩, htb⟩ := hYW
  subst el; subst eZ
  obtain ⟨_, _, _, _, _, _, hlk, _, hz, hWm, hB, hfr, hlo, hcc, hss⟩ := id hT
  have hob : zok (zN μ) (.ref b) := hst0 _ (List.mem_append_right _ List.mem_cons_self)
  have hoa : zoks (zN μ) (.ref b :: as) := zoks_cons hob fun v hv => hst0 v (List.mem_append_left _ (List.mem_reverse.mpr hv))
  have he := zws_at τ.2.2.2.2.2.2.2.2.2.2.1.2.2 ad μ (zok_lt hob)
  rw [zent_o hb] at he
  obtain ⟨cell, g1, g2, g3⟩ := va_recv hT.K hw.1.1 (zcl_at ci hci.1) he
  have hp : PreV τ.2.2.2.2.1 H m.1.cls (ad b) (zPc τ.2.2.2.2.2.2.2.2.2.2.1 ad μ (.ref b :: as)) (as.map (ztv ad)) := ⟨zPc_blind _ _ _ _, ⟨cell, g1, g2, by rw [← hci.2]; exact g3⟩, fun U hU hWU => ⟨rfl, hWm.trans hWU, by rw [hU]; exact hw.1, by rw [hU]; exact zHS.B hT hw⟩⟩
  have hst1 : (as.reverse ++ .ref b :: st).map (ztv ad) = (as.map (ztv ad)).reverse ++ .ref (ad b) :: st.map (ztv ad) := by rw [List.map_append, List.map_reverse]; rfl
  have hr : vx_Run τ.1 τ.2.1 τ.2.2.1 τ.2.2.2.1 τ.2.2.2.2.1 τ.2.2.2.2.2.1 τ.2.2.2.2.2.2.1 τ.2.2.2.2.2.2.2.1 τ.2.2.2.2.2.2.2.2.1 τ.2.2.2.2.2.2.2.2.2.1 H locs c k mc' ms' (zF0 τ pc ls ((as.reverse ++ .ref b :: st).map (ztv ad))) (st.map (ztv ad)) (fun _ _ _ => False) (zXC τ.2.2.2.2.2.2.2.2.2.2.1 ad (zN μ) E Q) (zA τ.2.2.2.2.2.2.2.2.2.2.1) := vx_runV (Ts := ztb) (C := m.1.cls) ⟨hT.1, hT.2.1, hT.2.2.1, hT.own, hT.ws⟩ (ct ad hoa) ⟨callB_of n hT.ws (zpay hm) rfl rfl rfl (hT.ws _ hm.2.1) (hT.ws _ hl1) hm.2.2.1 (zroom hkk hfr hlo hm.2.2.2 mc' ms'), hT.ws _ hins, hT.ws _ hsel⟩ hp (g := zF0 τ pc ls ((as.reverse ++ .ref b :: st).map (ztv ad))) (locs := locs) (cells := c) (slots := k) rfl (by rw [List.length_map]; exact hn) (hLo.1.trans hL) hst1 (lv_room (by rw [zcat8]; exact h8)) hd ⟨by omega, by omega⟩
  intro T hTh X
  rcases hr T hTh X with ⟨_, _, _, _, _, _, _, _, _, _, hf, _⟩ | ⟨q, st₀, t, T', L', E', ce, h0', X', hL', e1, e2, hxc, hce, hcv, hcl, hgo⟩
  · exact hf.elim
  · obtain ⟨rfl, μ', ad', q1, q2, q3, q4, q5, q6⟩ := hxc
    have hS : va_S (zA τ.2.2.2.2.2.2.2.2.2.2.1) τ.2.2.2.2.1.heap T'.heap (locs ++ L') := by
      refine ⟨Nat.le_trans hw.2.1.1 (by rw [e1, ← h0']; exact q6), fun q g1 g2 => ?_, fun q hq => ?_⟩
      · have hlt : q < τ.2.2.2.2.2.2.2.2.2.2.1.1.heap.size := Nat.not_le.mp g2
        rw [e1, q5.2 q hlt, hB.2 q hlt]
      · rcases List.mem_append.mp hq with g | g
        · exact hw.2.1.2.2 q g
        · exact hL' q g
    have hw' : zHS τ ad' μ' T'.heap (locs ++ L') := ⟨by rw [e1]; exact q4, hS, fun a ha => by rw [q2 a (Nat.lt_of_lt_of_le ha hw.2.2.2)]; exact hw.2.2.1 a ha, Nat.le_trans hw.2.2.2 q3⟩
    have hJ := h μ' q1
    have kk : zW τ T'.heap (locs ++ L') (c + mc') (k + ms') F (F0 τ.2.2.2.2.2.1 hpc ls [.ref q]) := by
      have hL2 := zLo_mono hLo q2 q3
      rcases hst with ⟨i4, d1, d2, rfl⟩ | ⟨d1, rfl⟩
      · exact lv_astore_n (lv := zlv ad' L) hT.1 hT.2.1 d1 d2 (zLo_has hL2) hi rfl (fun ls' h' => hJ ad' T'.heap _ ls' hw' (zLo_st0 hL2 h') (zoks_nil _))
      · exact lv_astore (lv := zlv ad' L) hT.1 hT.2.1 d1 (zLo_has hL2) hi rfl (fun ls' h' => hJ ad' T'.heap _ ls' hw' (zLo_st0 hL2 h') (zoks_nil _))
    have ho := vx_catch (pc := pc) (ls := ls) (rest := st.map (ztv ad)) (q := q) (H := T'.heap) hT.own (tableOf pre) ⟨x0, x1, hpc, ct0⟩ (tableOf suf) (by rw [htb, hsplit]; simp [tableOf]) (fun z hz => by
        obtain ⟨w, hw1, rfl⟩ := List.mem_map.mp hz
        obtain ⟨n0, nm, k1, k2⟩ := hpass w hw1
        exact Or.inr ⟨n0, nm, hT.ws _ k1, va_Nc.moved hWm.alike k2⟩) (by simp [covers, hcov.1, hcov.2]) h0 (hT.ws _ hlink) (va_Nw.use rfl (va_Nw.warmC hWm (hz.1 _ hcast rfl))) (by rw [e1]; exact hce) hcv hcl kk
    obtain ⟨t2, a1, b1⟩ := ho T' rfl X'
    exact ⟨t2, hgo.trans a1, b1⟩
end ZW


