theorem dJ7_copyOf_0 : decode cJ7_copyOf_59c91 0 = .ok (.iload_n 1, 1) := by decide +kernel
theorem dJ7_copyOf_1 : decode cJ7_copyOf_59c91 1 = .ok (.aload_n 0, 1) := by decide +kernel
theorem dJ7_copyOf_2 : decode cJ7_copyOf_59c91 2 = .ok (.arraylength, 1) := by decide +kernel
theorem dJ7_copyOf_3 : decode cJ7_copyOf_59c91 3 = .ok (.if_icmp .ne 11, 3) := by decide +kernel
theorem dJ7_copyOf_6 : decode cJ7_copyOf_59c91 6 = .ok (.aload_n 0, 1) := by decide +kernel
theorem dJ7_copyOf_7 : decode cJ7_copyOf_59c91 7 = .ok (.invokevirtual 316, 3) := by decide +kernel
theorem dJ7_copyOf_10 : decode cJ7_copyOf_59c91 10 = .ok (.checkcast 317, 3) := by decide +kernel
theorem dJ7_copyOf_13 : decode cJ7_copyOf_59c91 13 = .ok (.areturn, 1) := by decide +kernel
theorem dJ7_copyOf_14 : decode cJ7_copyOf_59c91 14 = .ok (.iload_n 1, 1) := by decide +kernel
theorem dJ7_copyOf_15 : decode cJ7_copyOf_59c91 15 = .ok (.newarray .int, 2) := by decide +kernel
theorem dJ7_copyOf_17 : decode cJ7_copyOf_59c91 17 = .ok (.astore_n 2, 1) := by decide +kernel
theorem dJ7_copyOf_18 : decode cJ7_copyOf_59c91 18 = .ok (.aload_n 0, 1) := by decide +kernel
theorem dJ7_copyOf_19 : decode cJ7_copyOf_59c91 19 = .ok (.iconst 0, 1) := by decide +kernel
theorem dJ7_copyOf_20 : decode cJ7_copyOf_59c91 20 = .ok (.aload_n 2, 1) := by decide +kernel
theorem dJ7_copyOf_21 : decode cJ7_copyOf_59c91 21 = .ok (.iconst 0, 1) := by decide +kernel
theorem dJ7_copyOf_22 : decode cJ7_copyOf_59c91 22 = .ok (.aload_n 0, 1) := by decide +kernel
theorem dJ7_copyOf_23 : decode cJ7_copyOf_59c91 23 = .ok (.arraylength, 1) := by decide +kernel
theorem dJ7_copyOf_24 : decode cJ7_copyOf_59c91 24 = .ok (.iload_n 1, 1) := by decide +kernel
theorem dJ7_copyOf_25 : decode cJ7_copyOf_59c91 25 = .ok (.invokestatic 304, 3) := by decide +kernel
theorem dJ7_copyOf_28 : decode cJ7_copyOf_59c91 28 = .ok (.invokestatic 150, 3) := by decide +kernel
theorem dJ7_copyOf_31 : decode cJ7_copyOf_59c91 31 = .ok (.aload_n 2, 1) := by decide +kernel
theorem dJ7_copyOf_32 : decode cJ7_copyOf_59c91 32 = .ok (.areturn, 1) := by decide +kernel
section CLN
variable {τ : zT} {M : zM} {kk mc ms : Nat} {F : State → Prop} {pc : Nat} {L : List (Option Value)} {st : List Value} {μ : zMem} {c k : Nat}
theorem set_lst {α : Type} (l : List α) (x y : α) : (l ++ [x]).set l.length y = l ++ [y] := by
  rw [List.set_append]
  simp
theorem fnA (hT : zCx τ M kk mc ms) : τ.2.2.2.2.1.vm.findClass "[I" = some (τ.2.2.2.2.2.2.2.2.2.2.1.2.2 0) := (hT.K.2 0 _ (ztys_at _ (by decide))).2
theorem J_clone (hT : zCx τ M kk mc ms) {idx a : Nat} (hd : decode M.2.1 pc = .ok (.invokevirtual idx, 3)) (hlink : Cond.methodLink M.1.cls idx ⟨"[I", "clone", "()Ljava/lang/Object;"⟩ ∈ ztb) (ha0 : zK μ a = 0) (hL : L.length = M.2.2.1) (h8 : (st.map fun v => v.category).sum ≤ 8) (hc : c + 1 ≤ mc) (hk : k + zL μ a ≤ ms)
    (h : zJ τ F (pc + 3) L (.ref (zN μ) :: st) (zsA (zal μ 0 (zL μ a)) (zN μ) (zI μ a)) (c + 1) (k + zL μ a)) : zJ τ F pc L (.ref a :: st) μ c k := by
  intro ad H locs ls hw hLo hst
  have ha := zok_lt (zoks_hd hst)
  have hea := zws_at τ.2.2.2.2.2.2.2.2.2.2.1.2.2 ad μ ha
  rw [zent_i ha0 (by decide)] at hea
  obtain ⟨_, _, _, _, _, _, _, _, hz, hWm, hB, hfr, hlo, hcc, hss⟩ := id hT
  refine va_clone hT.1 hT.2.1 (by rw [hT.2.2.1, ← hL]; exact hLo.1.symm) hT.own (hT.ws _ hlink) (hT.ws _ cw_sm) (hT.ws _ cw_nc) (hT.ws _ cw_ic) (hT.ws _ cw_sc) (va_Nw.warmC hWm (hz.1 _ cw_cb rfl)) hT.K hw.1.1 hw.1.2.1 hw.2.1 hT.A a 0 hea (ztys_at _ (by decide)) (fnA hT) (fun i v hv => ?_) (by unfold zfr at hfr; omega) (by rw [zcat8]; unfold zlo at hlo; omega) (by omega) (by show _ + zL μ a ≤ _; omega) hd (fun q H1 _ q1 q2 q3 => ?_)
  · rw [vp_cell_i] at hv
    have hi : i < zL μ a := by
      have := (Array.getElem?_eq_some_iff.mp hv).1
      rw [arrV_size] at this
      exact this
    rw [arrV_read _ _ hi] at hv
    injection hv with hv
    rw [← hv]
    rfl
  · have e1 := zws_al (cA := τ.2.2.2.2.2.2.2.2.2.2.1.2.2) (ad := ad) (kd := 0) (n := zL μ a) (q := q) hw.1.2.2 rfl
    have e2 := zws_set (cA := τ.2.2.2.2.2.2.2.2.2.2.1.2.2) (ad := fun x => if x = zN μ then q else ad x) (μ := zal μ 0 (zL μ a)) (μ' := zsA (zal μ 0 (zL μ a)) (zN μ) (zI μ a)) (a := zN μ) (e := .inl (τ.2.2.2.2.2.2.2.2.2.2.1.2.2 0, zL μ a, .inl (zI μ a))) rfl (by rw [zent_i (μ := zsA (zal μ 0 (zL μ a)) (zN μ) (zI μ a)) (show zK (zal μ 0 (zL μ a)) (zN μ) = 0 from if_pos rfl) (by decide), zsA_i, show zL (zsA (zal μ 0 (zL μ a)) (zN μ) (zI μ a)) (zN μ) = zL μ a from if_pos rfl]) (fun b hb => zent_sA_ne _ _ _ _ _ b hb)
    rw [← e1, show (if zN μ = zN μ then q else ad (zN μ)) = q from if_pos rfl, ← zws_len τ.2.2.2.2.2.2.2.2.2.2.1.2.2 ad μ, set_lst, zws_len] at e2
    have hw2 : zHS τ (fun x => if x = zN μ then q else ad x) (zsA (zal μ 0 (zL μ a)) (zN μ) (zI μ a)) H1 locs := by
      refine ⟨⟨by rw [← e2]; exact q1, by rw [← e2]; exact q2, ?_⟩, q3, fun x hx => ?_, by have := hw.2.2.2; show _ ≤ zN μ + 1; omega⟩
      · intro b j r hb hp
        have hb' : b < zN μ + 1 := hb
        have hp' : (if b = zN μ then none else zP μ b j) = some r := hp
        show r < zN μ + 1
        split at hp'
        · cases hp'
        · have := hw.1.2.2 b j r (by omega) hp'
          omega
      · have := hw.2.2.2
        show (if x = zN μ then q else ad x) = _
        rw [if_neg (by omega)]
        exact hw.2.2.1 x hx
    have hL2 := zLo_mono (ad' := fun x => if x = zN μ then q else ad x) (m := zN μ + 1) hLo (fun x hx => by show (if x = zN μ then q else ad x) = _; rw [if_neg (by omega)]) (by omega)
    have h3 := h _ H1 locs ls hw2 hL2 (zoks_cons (zok_ref (show zN μ < zN μ + 1 by omega)) (zoks_mono (zoks_tl hst) (show zN μ ≤ zN μ + 1 by omega)))
    rw [List.map_cons, ztv_ref, if_pos rfl, ztv_congrs (zoks_tl hst) (fun x hx => by show (if x = zN μ then q else ad x) = _; rw [if_neg (by omega)])] at h3
    exact h3
theorem J_castI (hT : zCx τ M kk mc ms) {idx a : Nat} (hd : decode M.2.1 pc = .ok (.checkcast idx, 3)) (hlink : Cond.classLink M.1.cls idx "[I" ∈ ztb) (ha0 : zK μ a = 0) (h : zJ τ F (pc + 3) L (.ref a :: st) μ c k) : zJ τ F pc L (.ref a :: st) μ c k := by
  intro ad H locs ls hw hLo hst
  have ha := zok_lt (zoks_hd hst)
  have hea := zws_at τ.2.2.2.2.2.2.2.2.2.2.1.2.2 ad μ ha
  rw [zent_i ha0 (by decide)] at hea
  exact va_castA hT.1 hT.2.1 hT.own (hT.ws _ hlink) hw.1.1 a hea (fnA hT) hd (h ad H locs ls hw hLo hst)
end CLN
set_option maxRecDepth 100000 in
set_option maxHeartbeats 4000000 in
theorem c_J7_copyOf {l : Launch} {Z : zZ} (hZ : zSt l Z) {μ : zMem} {σ : zS2} {π : zP2} {g : zG2} {a n : Nat} (ha : zK μ a = 0) (hal : zL μ a = 30) (han : a < zN μ) (hn : n ≤ 30) : zCt l Z mJ7_copyOf 1 1 30 [.ref a, .int (nI n)] (zA4 μ σ π g) (fun r μ' => r = some (.ref (zN μ)) ∧ ∃ f : Nat → Int32, μ' = zA4 (zal μ 0 n) (fun b j => if b = zN μ then f j else σ b j) (nπ μ π) (ng2 μ g) ∧ ∀ i, i < n → f i = σ a i) := by
  refine zCt_of hZ mpJ7_copyOf (Nat.le_of_ble_eq_true rfl) (L := [some (.ref a), some (.int (nI n)), none]) rfl (fun τ hY => ?_)
  have hT := hY.1
  have hsA : ∀ (m : Nat) (f : Nat → Int32), zsA (zal (zA4 μ σ π g) 0 m) (zN μ) f = zA4 (zal μ 0 m) (fun b j => if b = zN μ then f j else σ b j) (nπ μ π) (ng2 μ g) := by
    intro m f
    unfold zsA zA4
    refine congrArg (fun s => (zN μ + 1, (zal μ 0 m).2.1, (zal μ 0 m).2.2.1, s, nπ μ π, ng2 μ g)) ?_
    funext b j
    show (if b = zN μ then f j else (if b = zN μ then 0 else σ b j)) = _
    by_cases q : b = zN μ
    · rw [if_pos q, if_pos q]
    · rw [if_neg q, if_neg q, if_neg q]
  refine J_iload_n (i := 1) hT dJ7_copyOf_0 rfl rfl ?_
  refine J_aload_n (i := 0) hT dJ7_copyOf_1 rfl rfl ?_
  refine R_alen hT dJ7_copyOf_2 (by rw [ha]; decide) hal ?_
  by_cases h : n = 30
  · subst h
    refine J_icmp_ne (tgt := 14) hT dJ7_copyOf_3 (by decide) (fun q => absurd rfl q) (fun _ => ?_)
    refine J_aload_n (i := 0) hT dJ7_copyOf_6 rfl rfl ?_
    refine J_clone (μ := zA4 μ σ π g) hT dJ7_copyOf_7 cw_cl ha rfl (Nat.le_of_ble_eq_true rfl) (Nat.le_refl _) (by show 0 + zL μ a ≤ 30; omega) ?_
    refine J_castI hT dJ7_copyOf_10 cw_cc (if_pos rfl) ?_
    refine J_mu (hsA _ _) ?_
    exact J_aretA hT dJ7_copyOf_13 rfl ⟨rfl, _, by rw [show zL (zA4 μ σ π g) a = 30 from hal]; rfl, fun i _ => rfl⟩ (Nat.le_refl _) (by show 0 + zL μ a ≤ 30; omega)
  · refine J_icmp_ne (tgt := 14) hT dJ7_copyOf_3 (by decide) (fun _ => ?_) (fun q => absurd q (fun z => h ((nI_eq (a := n) (b := 30) (by omega) (by decide)).mp z)))
    refine J_iload_n (i := 1) hT dJ7_copyOf_14 rfl rfl ?_
    refine J_newI (μ := zA4 μ σ π g) (kd := 0) (n := n) hT (Or.inl ⟨rfl, rfl⟩) dJ7_copyOf_15 cw_ai rfl (by omega) (Nat.le_refl _) (by omega) ?_
    refine S_astore2 hT dJ7_copyOf_17 rfl rfl ?_
    refine J_aload_n (i := 0) hT dJ7_copyOf_18 rfl rfl ?_
    refine J_iconst (v := 0) hT dJ7_copyOf_19 rfl ?_
    refine J_aload_n (i := 2) hT dJ7_copyOf_20 rfl rfl ?_
    refine J_iconst (v := 0) hT dJ7_copyOf_21 rfl ?_
    refine J_aload_n (i := 0) hT dJ7_copyOf_22 rfl rfl ?_
    have hka : zK (zal (zA4 μ σ π g) 0 n) a = 0 := (if_neg (show ¬ a = zN μ by omega)).trans ha
    have hla : zL (zal (zA4 μ σ π g) 0 n) a = 30 := (if_neg (show ¬ a = zN μ by omega)).trans hal
    refine J_alen (v := nI 30) hT dJ7_copyOf_23 (by rw [hka]; decide) (by rw [hla]) ?_
    refine J_iload_n (i := 1) hT dJ7_copyOf_24 rfl rfl ?_
    refine J_mmin hT dJ7_copyOf_25 cw_mn rfl (Nat.le_of_ble_eq_true rfl) (Nat.le_refl _) (by omega) ?_
    refine J_topil (if_pos (nI_lt (a := n) (b := 30) (by omega) (by decide))) ?_
    refine J_acopy hT dJ7_copyOf_28 cw_ac hka (if_pos rfl) (by rw [hla]; omega) (Nat.le_of_eq (if_pos rfl).symm) (by omega) rfl (Nat.le_of_ble_eq_true rfl) ?_
    refine J_aload_n (i := 2) hT dJ7_copyOf_31 rfl rfl ?_
    refine J_mu (hsA _ _) ?_
    refine J_aretA hT dJ7_copyOf_32 rfl ⟨rfl, _, rfl, fun i hi => ?_⟩ (Nat.le_refl _) (by omega)
    show (if 0 ≤ i ∧ i < 0 + n then zI (zal (zA4 μ σ π g) 0 n) a (0 + (i - 0)) else _) = _
    rw [if_pos (by omega), zI_al, if_neg (show ¬ a = zN (zA4 μ σ π g) by show ¬ a = zN μ; omega), show 0 + (i - 0) = i by omega]
    rfl

