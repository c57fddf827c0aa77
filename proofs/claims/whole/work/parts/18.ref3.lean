set_option maxHeartbeats 4000000 in
set_option maxRecDepth 100000 in
theorem m_settle (l : Launch) (G : va_G) (ad : Nat → Nat) (cy : Nat → ClassId) (hI : mI ad) (σ : Sg) (f : Int) (hf : nB f) (hf8 : 0 ≤ f ∧ f < 8) (h11 : 0 ≤ σ 11 f.toNat ∧ σ 11 f.toNat ≤ 3) (h5 : nB (σ 5 f.toNat)) (h6 : nB (σ 6 f.toNat)) (h12 : 0 < σ 11 f.toNat → nB (σ 6 f.toNat + σ 12 (3 * f).toNat)) : mMv l yX3_settle wsX3_settle ({ frames := 1, cells := 0, slots := 0, locals := 23 } : Room) G ad cy [.ref (ad 0), .int (iI f)] σ (gSettle σ f) := by
  intro sz
  refine Met.ofW (cc := cX3_settle) (maxL := 3) (ret := none) (by decide) rfl ?_
  intro p e s m args below meth cd s₁ B hml hv
  obtain ⟨rfl, hsz, hP, hK⟩ := hv
  have hx := B.exec
  have hb := B.bytes
  have hr := B.returns
  have hts := atoms_spec (ws := wsX3_settle) B.pre
  have hown : s.vm.findClass RX3 = some m.cls := findClass_of_methodNamed B.named
  have hlocks := B.notSynchronized
  subst hsz
  have hS : va_S (mA ad s.heap.size) s.heap s.heap [] := va_S.rf
  have hA : ∀ q, s.heap.size ≤ q → mA ad s.heap.size q := fun _ h => Or.inr h
  have hAc : ∀ j, j < 21 → mA ad s.heap.size (ad j) := fun j h => Or.inl ⟨j, h, rfl⟩
  have hl := lv_entry ([.ref (ad 0), .int (iI f)]) (n := 3) (Nat.le_of_ble_eq_true rfl)
  rw [lg_entry_eq]
  generalize (lg_sl ([.ref (ad 0), .int (iI f)]) ++ List.replicate (3 - (lg_sl ([.ref (ad 0), .int (iI f)])).length) Slot.unset).toArray = ls at hl ⊢
  have hl : lv_has ls 3 [(0, .ref (ad 0)), (1, .int (iI f))] := hl
  have hF3 : ∀ w ∈ wsX30, w ∈ wsX3_settle := by decide +kernel
  have lf40 := hts (.fieldLink RX3 40 "HarvestLenderModel" "rows" "[I") (by decide +kernel)
  have lf22 := hts (.fieldLink RX3 22 "HarvestLenderModel" "purses" "[I") (by decide +kernel)
  have lf25 := hts (.fieldLink RX3 25 "HarvestLenderModel" "debts" "[I") (by decide +kernel)
  have lf43 := hts (.fieldLink RX3 43 "HarvestLenderModel" "parts" "[I") (by decide +kernel)
  have loop : ∀ (d k : Nat), k ≤ ((σ 11 f.toNat).toNat - 1) → ((σ 11 f.toNat).toNat - 1) < k + d → (0 < σ 11 f.toNat) → ∀ (H : Heap) (locs : List Loc) (ls : Array Slot), va_P G vwCl (mW ad cy (gShift (up σ 6 f.toNat ((σ 6 f.toNat) + (σ 12 ((3 * f).toNat)))) f k)) H → va_S (mA ad s.heap.size) s.heap H locs → lv_has ls 3 [(0, .ref (ad 0)), (1, .int (iI f)), (2, .int (iI ((k : Int) + 1)))] → W p l e (headSpec wsX3_settle ({ frames := 1, cells := 0, slots := 0, locals := 23 } : Room)).room s m ([.ref (ad 0), .int (iI f)] : List Value).toArray below meth cd H locs 0 0 (MQ below (va_Qv (fun u9 : Sg => u9 = gSettle σ f) (mB G ad cy) (mA ad s.heap.size)) ([.ref (ad 0), .int (iI f)] : List Value).toArray s 0 0 (mA ad s.heap.size)) (F0 m 28 ls []) := by
    intro d
    induction d with
    | zero => intro k h1 h2; exact absurd h2 (by omega)
    | succ d ih =>
      intro k hk hd hq0 H locs ls hP hS hl
      refine lv_iload_n hx hb dX3_settle_28 rfl (lv_at hl 2 rfl) ?_
      refine lv_aload_n hx hb dX3_settle_29 rfl (lv_at hl 0 rfl) ?_
      refine k_mg (v := .ref (ad 11)) hx hb hts hown hF3 hK hP 14 (by decide) lf40 dX3_settle_30 rfl rfl ?_
      refine lv_iload_n hx hb dX3_settle_33 rfl (lv_at hl 1 rfl) ?_
      refine k_mld (q := 11) (N := 8) (x := f) hx hb hK hP (by decide) rfl (by omega) (by omega) (by decide) dX3_settle_34 ?_
      rw [show (gShift (up σ 6 f.toNat ((σ 6 f.toNat) + (σ 12 ((3 * f).toNat)))) f k) 11 (f).toNat = σ 11 f.toNat by simp [gShift_r, up]]
      refine k_icmp_ge (tgt := 66) hx hb dX3_settle_35 (by decide) (by omega) (by omega) (fun c_1 => ?_) (fun c_1 => ?_)
      · have hP : va_P G vwCl (mW ad cy (gShift (up σ 6 f.toNat ((σ 6 f.toNat) + (σ 12 ((3 * f).toNat)))) f ((σ 11 f.toNat).toNat - 1))) H := by (have e : k = ((σ 11 f.toNat).toNat - 1) := by omega); (rw [e] at hP); exact hP
        refine lv_aload_n hx hb dX3_settle_66 rfl (lv_at hl 0 rfl) ?_
        refine k_mg (v := .ref (ad 11)) hx hb hts hown hF3 hK hP 14 (by decide) lf40 dX3_settle_67 rfl rfl ?_
        refine lv_iload_n hx hb dX3_settle_70 rfl (lv_at hl 1 rfl) ?_
        refine lv_dup2_11 hx hb dX3_settle_71 rfl rfl ?_
        refine k_mld (q := 11) (N := 8) (x := f) hx hb hK hP (by decide) rfl (by omega) (by omega) (by decide) dX3_settle_72 ?_
        rw [show (gShift (up σ 6 f.toNat ((σ 6 f.toNat) + (σ 12 ((3 * f).toNat)))) f ((σ 11 f.toNat).toNat - 1)) 11 (f).toNat = σ 11 f.toNat by simp [gShift_r, up]]
        refine k_iconst hx hb dX3_settle_73 ?_
        refine k_isub hx hb dX3_settle_74 ?_
        refine k_mst (q := 11) (N := 8) (x := f) (v := (σ 11 f.toNat) - 1) hx hb hI hAc hK hP hS (by decide) rfl (by omega) (by omega) (by decide) dX3_settle_75 (fun H locs hP hS => ?_)
        have J_2 : W p l e (headSpec wsX3_settle ({ frames := 1, cells := 0, slots := 0, locals := 23 } : Room)).room s m ([.ref (ad 0), .int (iI f)] : List Value).toArray below meth cd H locs 0 0 (MQ below (va_Qv (fun u9 : Sg => u9 = gSettle σ f) (mB G ad cy) (mA ad s.heap.size)) ([.ref (ad 0), .int (iI f)] : List Value).toArray s 0 0 (mA ad s.heap.size)) (F0 m 106 ls [.int (iI (mn ((σ 6 f.toNat) + (σ 12 ((3 * f).toNat))) (σ 5 f.toNat)))]) := by
          refine lv_istore_n (lv' := [(2, .int (iI (mn ((σ 6 f.toNat) + (σ 12 ((3 * f).toNat))) (σ 5 f.toNat)))), (0, .ref (ad 0)), (1, .int (iI f))]) hx hb dX3_settle_106 rfl hl (by decide) rfl (fun ls hl => ?_)
          refine lv_aload_n hx hb dX3_settle_107 rfl (lv_at hl 1 rfl) ?_
          refine k_mg (v := .ref (ad 5)) hx hb hts hown hF3 hK hP 8 (by decide) lf22 dX3_settle_108 rfl rfl ?_
          refine lv_iload_n hx hb dX3_settle_111 rfl (lv_at hl 2 rfl) ?_
          refine lv_dup2_11 hx hb dX3_settle_112 rfl rfl ?_
          refine k_mld (q := 5) (N := 8) (x := f) hx hb hK hP (by decide) rfl (by omega) (by omega) (by decide) dX3_settle_113 ?_
          rw [show (up (gShift (up σ 6 f.toNat ((σ 6 f.toNat) + (σ 12 ((3 * f).toNat)))) f ((σ 11 f.toNat).toNat - 1)) 11 f.toNat ((σ 11 f.toNat) - 1)) 5 (f).toNat = σ 5 f.toNat by simp [gShift_r, up]]
          refine lv_iload_n hx hb dX3_settle_114 rfl (lv_at hl 0 rfl) ?_
          refine k_isub hx hb dX3_settle_115 ?_
          refine k_mst (q := 5) (N := 8) (x := f) (v := (σ 5 f.toNat) - (mn ((σ 6 f.toNat) + (σ 12 ((3 * f).toNat))) (σ 5 f.toNat))) hx hb hI hAc hK hP hS (by decide) rfl (by omega) (by omega) (by decide) dX3_settle_116 (fun H locs hP hS => ?_)
          refine lv_aload_n hx hb dX3_settle_117 rfl (lv_at hl 1 rfl) ?_
          refine lv_iload_n hx hb dX3_settle_118 rfl (lv_at hl 2 rfl) ?_
          refine lv_iload_n hx hb dX3_settle_119 rfl (lv_at hl 0 rfl) ?_
          refine k_iconst hx hb dX3_settle_120 ?_
          refine k_mcv (As := [.int (iI f), .int (iI (mn ((σ 6 f.toNat) + (σ 12 ((3 * f).toNat))) (σ 5 f.toNat))), .int (iI 0)]) (rest := []) ⟨hx, hb, hml, hown, hts⟩ (m_lower l G ad cy hI (up (up (gShift (up σ 6 f.toNat ((σ 6 f.toNat) + (σ 12 ((3 * f).toNat)))) f ((σ 11 f.toNat).toNat - 1)) 11 f.toNat ((σ 11 f.toNat) - 1)) 5 f.toNat ((σ 5 f.toNat) - (mn ((σ 6 f.toNat) + (σ 12 ((3 * f).toNat))) (σ 5 f.toNat)))) f (mn ((σ 6 f.toNat) + (σ 12 ((3 * f).toNat))) (σ 5 f.toNat)) 0 (by omega) (by first | (have m1 := mn_le2 (σ 6 f.toNat) (σ 5 f.toNat); have m2 := mn_ge (σ 6 f.toNat) (σ 5 f.toNat) (-2147483648) (by omega) (by omega); omega) | (have m1 := mn_le2 (σ 6 f.toNat + σ 12 (3 * f).toNat) (σ 5 f.toNat); have m2 := mn_ge (σ 6 f.toNat + σ 12 (3 * f).toNat) (σ 5 f.toNat) (-2147483648) (by omega) (by omega); omega)) (by decide) (by omega) (by decide)) (cwV 3 hts gX3_settle_X3_lower rfl rfl rfl (by decide +kernel) ⟨Nat.le_of_ble_eq_true rfl, Nat.le_of_ble_eq_true rfl⟩) (mRecv hK hP) hAc hA hK hP hS rfl hl.1 rfl (Nat.le_of_ble_eq_true rfl) dX3_settle_121 ⟨Nat.zero_le _, Nat.zero_le _⟩ (fun H locs hP hS => ?_)
          have eF : gLower (up (up (gShift (up σ 6 f.toNat ((σ 6 f.toNat) + (σ 12 ((3 * f).toNat)))) f ((σ 11 f.toNat).toNat - 1)) 11 f.toNat ((σ 11 f.toNat) - 1)) 5 f.toNat ((σ 5 f.toNat) - (mn ((σ 6 f.toNat) + (σ 12 ((3 * f).toNat))) (σ 5 f.toNat)))) f (mn ((σ 6 f.toNat) + (σ 12 ((3 * f).toNat))) (σ 5 f.toNat)) 0 = gSettle σ f := by first | (rw [gSettle_pos (by omega)]) | (rw [gSettle_neg (by omega)])
          rw [eF] at hP
          exact W.vret hx hb hr (fun t ht hW => ⟨⟨_, rfl, rfl, by rw [ht]; exact hP, va_K.moved hW.alike hK⟩, hS.F ht⟩) hS.2.2 dX3_settle_124
        refine lv_aload_n hx hb dX3_settle_76 rfl (lv_at hl 0 rfl) ?_
        refine k_mg (v := .ref (ad 5)) hx hb hts hown hF3 hK hP 8 (by decide) lf22 dX3_settle_77 rfl rfl ?_
        refine lv_iload_n hx hb dX3_settle_80 rfl (lv_at hl 1 rfl) ?_
        refine k_mld (q := 5) (N := 8) (x := f) hx hb hK hP (by decide) rfl (by omega) (by omega) (by decide) dX3_settle_81 ?_
        rw [show (up (gShift (up σ 6 f.toNat ((σ 6 f.toNat) + (σ 12 ((3 * f).toNat)))) f ((σ 11 f.toNat).toNat - 1)) 11 f.toNat ((σ 11 f.toNat) - 1)) 5 (f).toNat = σ 5 f.toNat by simp [gShift_r, up]]
        refine lv_aload_n hx hb dX3_settle_82 rfl (lv_at hl 0 rfl) ?_
        refine k_mg (v := .ref (ad 6)) hx hb hts hown hF3 hK hP 9 (by decide) lf25 dX3_settle_83 rfl rfl ?_
        refine lv_iload_n hx hb dX3_settle_86 rfl (lv_at hl 1 rfl) ?_
        refine k_mld (q := 6) (N := 8) (x := f) hx hb hK hP (by decide) rfl (by omega) (by omega) (by decide) dX3_settle_87 ?_
        rw [show (up (gShift (up σ 6 f.toNat ((σ 6 f.toNat) + (σ 12 ((3 * f).toNat)))) f ((σ 11 f.toNat).toNat - 1)) 11 f.toNat ((σ 11 f.toNat) - 1)) 6 (f).toNat = (σ 6 f.toNat) + (σ 12 ((3 * f).toNat)) by simp [gShift_r, up]]
        refine k_icmp_ge (tgt := 100) hx hb dX3_settle_88 (by decide) (by omega) (by omega) (fun c_3 => ?_) (fun c_3 => ?_)
        · refine lv_aload_n hx hb dX3_settle_100 rfl (lv_at hl 0 rfl) ?_
          refine k_mg (v := .ref (ad 6)) hx hb hts hown hF3 hK hP 9 (by decide) lf25 dX3_settle_101 rfl rfl ?_
          refine lv_iload_n hx hb dX3_settle_104 rfl (lv_at hl 1 rfl) ?_
          refine k_mld (q := 6) (N := 8) (x := f) hx hb hK hP (by decide) rfl (by omega) (by omega) (by decide) dX3_settle_105 ?_
          rw [show (up (gShift (up σ 6 f.toNat ((σ 6 f.toNat) + (σ 12 ((3 * f).toNat)))) f ((σ 11 f.toNat).toNat - 1)) 11 f.toNat ((σ 11 f.toNat) - 1)) 6 (f).toNat = (σ 6 f.toNat) + (σ 12 ((3 * f).toNat)) by simp [gShift_r, up]]
          exact (by have e9 : mn ((σ 6 f.toNat) + (σ 12 ((3 * f).toNat))) (σ 5 f.toNat) = (σ 6 f.toNat) + (σ 12 ((3 * f).toNat)) := gMin_eq (by omega); rw [e9] at J_2; exact J_2)
        · refine lv_aload_n hx hb dX3_settle_91 rfl (lv_at hl 0 rfl) ?_
          refine k_mg (v := .ref (ad 5)) hx hb hts hown hF3 hK hP 8 (by decide) lf22 dX3_settle_92 rfl rfl ?_
          refine lv_iload_n hx hb dX3_settle_95 rfl (lv_at hl 1 rfl) ?_
          refine k_mld (q := 5) (N := 8) (x := f) hx hb hK hP (by decide) rfl (by omega) (by omega) (by decide) dX3_settle_96 ?_
          rw [show (up (gShift (up σ 6 f.toNat ((σ 6 f.toNat) + (σ 12 ((3 * f).toNat)))) f ((σ 11 f.toNat).toNat - 1)) 11 f.toNat ((σ 11 f.toNat) - 1)) 5 (f).toNat = σ 5 f.toNat by simp [gShift_r, up]]
          refine lv_goto (tgt := 106) hx hb dX3_settle_97 (by decide) ?_
          exact (by have e9 : mn ((σ 6 f.toNat) + (σ 12 ((3 * f).toNat))) (σ 5 f.toNat) = σ 5 f.toNat := gMin_eq (by omega); rw [e9] at J_2; exact J_2)
      · refine lv_aload_n hx hb dX3_settle_38 rfl (lv_at hl 0 rfl) ?_
        refine k_mg (v := .ref (ad 12)) hx hb hts hown hF3 hK hP 15 (by decide) lf43 dX3_settle_39 rfl rfl ?_
        refine k_iconst hx hb dX3_settle_42 ?_
        refine lv_iload_n hx hb dX3_settle_43 rfl (lv_at hl 1 rfl) ?_
        refine k_imul hx hb dX3_settle_44 ?_
        refine lv_iload_n hx hb dX3_settle_45 rfl (lv_at hl 2 rfl) ?_
        refine k_iadd hx hb dX3_settle_46 ?_
        refine k_iconst hx hb dX3_settle_47 ?_
        refine k_isub hx hb dX3_settle_48 ?_
        refine lv_aload_n hx hb dX3_settle_49 rfl (lv_at hl 0 rfl) ?_
        refine k_mg (v := .ref (ad 12)) hx hb hts hown hF3 hK hP 15 (by decide) lf43 dX3_settle_50 rfl rfl ?_
        refine k_iconst hx hb dX3_settle_53 ?_
        refine lv_iload_n hx hb dX3_settle_54 rfl (lv_at hl 1 rfl) ?_
        refine k_imul hx hb dX3_settle_55 ?_
        refine lv_iload_n hx hb dX3_settle_56 rfl (lv_at hl 2 rfl) ?_
        refine k_iadd hx hb dX3_settle_57 ?_
        refine k_mld (q := 12) (N := 24) (x := (3 * f) + ((k : Int) + 1)) hx hb hK hP (by decide) rfl (by omega) (by omega) (by decide) dX3_settle_58 ?_
        refine k_mst (q := 12) (N := 24) (x := ((3 * f) + ((k : Int) + 1)) - 1) (v := (gShift (up σ 6 f.toNat ((σ 6 f.toNat) + (σ 12 ((3 * f).toNat)))) f k) 12 (((3 * f) + ((k : Int) + 1)).toNat)) hx hb hI hAc hK hP hS (by decide) rfl (by omega) (by omega) (by decide) dX3_settle_59 (fun H locs hP hS => ?_)
        refine lv_iinc (v := iI (((k : Int) + 1) + 1)) (lv' := [(2, .int (iI (((k : Int) + 1) + 1))), (0, .ref (ad 0)), (1, .int (iI f))]) hx hb dX3_settle_60 hl (k := 2) rfl (iI_add _ _) (by decide) rfl (fun ls hl => ?_)
        refine lv_goto (tgt := 28) hx hb dX3_settle_63 (by decide) ?_
        have q4 : up (gShift (up σ 6 f.toNat ((σ 6 f.toNat) + (σ 12 ((3 * f).toNat)))) f k) 12 ((((3 * f) + ((k : Int) + 1)) - 1).toNat) ((gShift (up σ 6 f.toNat ((σ 6 f.toNat) + (σ 12 ((3 * f).toNat)))) f k) 12 (((3 * f) + ((k : Int) + 1)).toNat)) = gShift (up σ 6 f.toNat ((σ 6 f.toNat) + (σ 12 ((3 * f).toNat)))) f (k + 1) := by rfl
        rw [q4] at hP
        exact ih (k + 1) (by omega) (by omega) (by omega) _ _ _ hP hS (lv_sub hl [1, 2, 0] rfl)
  refine lv_aload_n hx hb dX3_settle_0 rfl (lv_at hl 0 rfl) ?_
  refine k_mg (v := .ref (ad 11)) hx hb hts hown hF3 hK hP 14 (by decide) lf40 dX3_settle_1 rfl rfl ?_
  refine lv_iload_n hx hb dX3_settle_4 rfl (lv_at hl 1 rfl) ?_
  refine k_mld (q := 11) (N := 8) (x := f) hx hb hK hP (by decide) rfl (by omega) (by omega) (by decide) dX3_settle_5 ?_
  refine k_if_le (tgt := 76) hx hb dX3_settle_6 (by decide) (by omega) (fun c_5 => ?_) (fun c_5 => ?_)
  · have J_6 : W p l e (headSpec wsX3_settle ({ frames := 1, cells := 0, slots := 0, locals := 23 } : Room)).room s m ([.ref (ad 0), .int (iI f)] : List Value).toArray below meth cd s.heap [] 0 0 (MQ below (va_Qv (fun u9 : Sg => u9 = gSettle σ f) (mB G ad cy) (mA ad s.heap.size)) ([.ref (ad 0), .int (iI f)] : List Value).toArray s 0 0 (mA ad s.heap.size)) (F0 m 106 ls [.int (iI (mn (σ 6 f.toNat) (σ 5 f.toNat)))]) := by
      refine lv_istore_n (lv' := [(2, .int (iI (mn (σ 6 f.toNat) (σ 5 f.toNat)))), (0, .ref (ad 0)), (1, .int (iI f))]) hx hb dX3_settle_106 rfl hl (by decide) rfl (fun ls hl => ?_)
      refine lv_aload_n hx hb dX3_settle_107 rfl (lv_at hl 1 rfl) ?_
      refine k_mg (v := .ref (ad 5)) hx hb hts hown hF3 hK hP 8 (by decide) lf22 dX3_settle_108 rfl rfl ?_
      refine lv_iload_n hx hb dX3_settle_111 rfl (lv_at hl 2 rfl) ?_
      refine lv_dup2_11 hx hb dX3_settle_112 rfl rfl ?_
      refine k_mld (q := 5) (N := 8) (x := f) hx hb hK hP (by decide) rfl (by omega) (by omega) (by decide) dX3_settle_113 ?_
      refine lv_iload_n hx hb dX3_settle_114 rfl (lv_at hl 0 rfl) ?_
      refine k_isub hx hb dX3_settle_115 ?_
      refine k_mst (q := 5) (N := 8) (x := f) (v := (σ 5 f.toNat) - (mn (σ 6 f.toNat) (σ 5 f.toNat))) hx hb hI hAc hK hP hS (by decide) rfl (by omega) (by omega) (by decide) dX3_settle_116 (fun H locs hP hS => ?_)
      refine lv_aload_n hx hb dX3_settle_117 rfl (lv_at hl 1 rfl) ?_
      refine lv_iload_n hx hb dX3_settle_118 rfl (lv_at hl 2 rfl) ?_
      refine lv_iload_n hx hb dX3_settle_119 rfl (lv_at hl 0 rfl) ?_
      refine k_iconst hx hb dX3_settle_120 ?_
      refine k_mcv (As := [.int (iI f), .int (iI (mn (σ 6 f.toNat) (σ 5 f.toNat))), .int (iI 0)]) (rest := []) ⟨hx, hb, hml, hown, hts⟩ (m_lower l G ad cy hI (up σ 5 f.toNat ((σ 5 f.toNat) - (mn (σ 6 f.toNat) (σ 5 f.toNat)))) f (mn (σ 6 f.toNat) (σ 5 f.toNat)) 0 (by omega) (by first | (have m1 := mn_le2 (σ 6 f.toNat) (σ 5 f.toNat); have m2 := mn_ge (σ 6 f.toNat) (σ 5 f.toNat) (-2147483648) (by omega) (by omega); omega) | (have m1 := mn_le2 (σ 6 f.toNat + σ 12 (3 * f).toNat) (σ 5 f.toNat); have m2 := mn_ge (σ 6 f.toNat + σ 12 (3 * f).toNat) (σ 5 f.toNat) (-2147483648) (by omega) (by omega); omega)) (by decide) (by omega) (by decide)) (cwV 3 hts gX3_settle_X3_lower rfl rfl rfl (by decide +kernel) ⟨Nat.le_of_ble_eq_true rfl, Nat.le_of_ble_eq_true rfl⟩) (mRecv hK hP) hAc hA hK hP hS rfl hl.1 rfl (Nat.le_of_ble_eq_true rfl) dX3_settle_121 ⟨Nat.zero_le _, Nat.zero_le _⟩ (fun H locs hP hS => ?_)
      have eF : gLower (up σ 5 f.toNat ((σ 5 f.toNat) - (mn (σ 6 f.toNat) (σ 5 f.toNat)))) f (mn (σ 6 f.toNat) (σ 5 f.toNat)) 0 = gSettle σ f := by first | (rw [gSettle_pos (by omega)]) | (rw [gSettle_neg (by omega)])
      rw [eF] at hP
      exact W.vret hx hb hr (fun t ht hW => ⟨⟨_, rfl, rfl, by rw [ht]; exact hP, va_K.moved hW.alike hK⟩, hS.F ht⟩) hS.2.2 dX3_settle_124
    refine lv_aload_n hx hb dX3_settle_76 rfl (lv_at hl 0 rfl) ?_
    refine k_mg (v := .ref (ad 5)) hx hb hts hown hF3 hK hP 8 (by decide) lf22 dX3_settle_77 rfl rfl ?_
    refine lv_iload_n hx hb dX3_settle_80 rfl (lv_at hl 1 rfl) ?_
    refine k_mld (q := 5) (N := 8) (x := f) hx hb hK hP (by decide) rfl (by omega) (by omega) (by decide) dX3_settle_81 ?_
    refine lv_aload_n hx hb dX3_settle_82 rfl (lv_at hl 0 rfl) ?_
    refine k_mg (v := .ref (ad 6)) hx hb hts hown hF3 hK hP 9 (by decide) lf25 dX3_settle_83 rfl rfl ?_
    refine lv_iload_n hx hb dX3_settle_86 rfl (lv_at hl 1 rfl) ?_
    refine k_mld (q := 6) (N := 8) (x := f) hx hb hK hP (by decide) rfl (by omega) (by omega) (by decide) dX3_settle_87 ?_
    refine k_icmp_ge (tgt := 100) hx hb dX3_settle_88 (by decide) (by omega) (by omega) (fun c_7 => ?_) (fun c_7 => ?_)
    · refine lv_aload_n hx hb dX3_settle_100 rfl (lv_at hl 0 rfl) ?_
      refine k_mg (v := .ref (ad 6)) hx hb hts hown hF3 hK hP 9 (by decide) lf25 dX3_settle_101 rfl rfl ?_
      refine lv_iload_n hx hb dX3_settle_104 rfl (lv_at hl 1 rfl) ?_
      refine k_mld (q := 6) (N := 8) (x := f) hx hb hK hP (by decide) rfl (by omega) (by omega) (by decide) dX3_settle_105 ?_
      exact (by have e9 : mn (σ 6 f.toNat) (σ 5 f.toNat) = σ 6 f.toNat := gMin_eq (by omega); rw [e9] at J_6; exact J_6)
    · refine lv_aload_n hx hb dX3_settle_91 rfl (lv_at hl 0 rfl) ?_
      refine k_mg (v := .ref (ad 5)) hx hb hts hown hF3 hK hP 8 (by decide) lf22 dX3_settle_92 rfl rfl ?_
      refine lv_iload_n hx hb dX3_settle_95 rfl (lv_at hl 1 rfl) ?_
      refine k_mld (q := 5) (N := 8) (x := f) hx hb hK hP (by decide) rfl (by omega) (by omega) (by decide) dX3_settle_96 ?_
      refine lv_goto (tgt := 106) hx hb dX3_settle_97 (by decide) ?_
      exact (by have e9 : mn (σ 6 f.toNat) (σ 5 f.toNat) = σ 5 f.toNat := gMin_eq (by omega); rw [e9] at J_6; exact J_6)
  · refine lv_aload_n hx hb dX3_settle_9 rfl (lv_at hl 0 rfl) ?_
    refine k_mg (v := .ref (ad 6)) hx hb hts hown hF3 hK hP 9 (by decide) lf25 dX3_settle_10 rfl rfl ?_
    refine lv_iload_n hx hb dX3_settle_13 rfl (lv_at hl 1 rfl) ?_
    refine lv_dup2_11 hx hb dX3_settle_14 rfl rfl ?_
    refine k_mld (q := 6) (N := 8) (x := f) hx hb hK hP (by decide) rfl (by omega) (by omega) (by decide) dX3_settle_15 ?_
    refine lv_aload_n hx hb dX3_settle_16 rfl (lv_at hl 0 rfl) ?_
    refine k_mg (v := .ref (ad 12)) hx hb hts hown hF3 hK hP 15 (by decide) lf43 dX3_settle_17 rfl rfl ?_
    refine k_iconst hx hb dX3_settle_20 ?_
    refine lv_iload_n hx hb dX3_settle_21 rfl (lv_at hl 1 rfl) ?_
    refine k_imul hx hb dX3_settle_22 ?_
    refine k_mld (q := 12) (N := 24) (x := 3 * f) hx hb hK hP (by decide) rfl (by omega) (by omega) (by decide) dX3_settle_23 ?_
    refine k_iadd hx hb dX3_settle_24 ?_
    refine k_mst (q := 6) (N := 8) (x := f) (v := (σ 6 f.toNat) + (σ 12 ((3 * f).toNat))) hx hb hI hAc hK hP hS (by decide) rfl (by omega) (by omega) (by decide) dX3_settle_25 (fun H locs hP hS => ?_)
    refine k_iconst hx hb dX3_settle_26 ?_
    refine lv_istore_n (lv' := [(2, .int (iI 1)), (0, .ref (ad 0)), (1, .int (iI f))]) hx hb dX3_settle_27 rfl hl (by decide) rfl (fun ls hl => ?_)
    have q8 : up σ 6 f.toNat ((σ 6 f.toNat) + (σ 12 ((3 * f).toNat))) = gShift (up σ 6 f.toNat ((σ 6 f.toNat) + (σ 12 ((3 * f).toNat)))) f 0 := by rfl
    rw [q8] at hP
    exact loop (((σ 11 f.toNat).toNat - 1) + 1) 0 (Nat.zero_le _) (by omega) (by omega) _ _ _ hP hS (lv_sub hl [1, 2, 0] rfl)
set_option maxHeartbeats 4000000 in
set_option maxRecDepth 100000 in
theorem m_roll (l : Launch) (G : va_G) (ad : Nat → Nat) (cy : Nat → ClassId) (hI : mI ad) (σ : Sg) (f : Int) (hf : nB f) (hf8 : 0 ≤ f ∧ f < 8) (h6 : 0 ≤ σ 6 f.toNat ∧ σ 6 f.toNat ≤ 2147483647) : mMv l yX3_roll wsX3_roll ({ frames := 0, cells := 0, slots := 0, locals := 0 } : Room) G ad cy [.ref (ad 0), .int (iI f)] σ (gRoll σ f) := by
  intro sz
  refine Met.ofW (cc := cX3_roll) (maxL := 3) (ret := none) (by decide) rfl ?_
  intro p e s m args below meth cd s₁ B hml hv
  obtain ⟨rfl, hsz, hP, hK⟩ := hv
  have hx := B.exec
  have hb := B.bytes
  have hr := B.returns
  have hts := atoms_spec (ws := wsX3_roll) B.pre
  have hown : s.vm.findClass RX3 = some m.cls := findClass_of_methodNamed B.named
  have hlocks := B.notSynchronized
  subst hsz
  have hS : va_S (mA ad s.heap.size) s.heap s.heap [] := va_S.rf
  have hA : ∀ q, s.heap.size ≤ q → mA ad s.heap.size q := fun _ h => Or.inr h
  have hAc : ∀ j, j < 21 → mA ad s.heap.size (ad j) := fun j h => Or.inl ⟨j, h, rfl⟩
  have hl := lv_entry ([.ref (ad 0), .int (iI f)]) (n := 3) (Nat.le_of_ble_eq_true rfl)
  rw [lg_entry_eq]
  generalize (lg_sl ([.ref (ad 0), .int (iI f)]) ++ List.replicate (3 - (lg_sl ([.ref (ad 0), .int (iI f)])).length) Slot.unset).toArray = ls at hl ⊢
  have hl : lv_has ls 3 [(0, .ref (ad 0)), (1, .int (iI f))] := hl
  have hF3 : ∀ w ∈ wsX30, w ∈ wsX3_roll := by decide +kernel
  have lf25 := hts (.fieldLink RX3 25 "HarvestLenderModel" "debts" "[I") (by decide +kernel)
  have lf43 := hts (.fieldLink RX3 43 "HarvestLenderModel" "parts" "[I") (by decide +kernel)
  have lf40 := hts (.fieldLink RX3 40 "HarvestLenderModel" "rows" "[I") (by decide +kernel)
  refine lv_aload_n hx hb dX3_roll_0 rfl (lv_at hl 0 rfl) ?_
  refine k_mg (v := .ref (ad 6)) hx hb hts hown hF3 hK hP 9 (by decide) lf25 dX3_roll_1 rfl rfl ?_
  refine lv_iload_n hx hb dX3_roll_4 rfl (lv_at hl 1 rfl) ?_
  refine k_mld (q := 6) (N := 8) (x := f) hx hb hK hP (by decide) rfl (by omega) (by omega) (by decide) dX3_roll_5 ?_
  refine k_iconst hx hb dX3_roll_6 ?_
  refine k_idiv hx hb dX3_roll_7 (by omega) (by omega) (by decide) (by decide) ?_
  refine lv_istore_n (lv' := [(2, .int (iI ((σ 6 f.toNat) / 3))), (0, .ref (ad 0)), (1, .int (iI f))]) hx hb dX3_roll_8 rfl hl (by decide) rfl (fun ls hl => ?_)
  refine lv_aload_n hx hb dX3_roll_9 rfl (lv_at hl 1 rfl) ?_
  refine k_mg (v := .ref (ad 12)) hx hb hts hown hF3 hK hP 15 (by decide) lf43 dX3_roll_10 rfl rfl ?_
  refine k_iconst hx hb dX3_roll_13 ?_
  refine lv_iload_n hx hb dX3_roll_14 rfl (lv_at hl 2 rfl) ?_
  refine k_imul hx hb dX3_roll_15 ?_
  refine lv_iload_n hx hb dX3_roll_16 rfl (lv_at hl 0 rfl) ?_
  refine k_mst (q := 12) (N := 24) (x := 3 * f) (v := (σ 6 f.toNat) / 3) hx hb hI hAc hK hP hS (by decide) rfl (by omega) (by omega) (by decide) dX3_roll_17 (fun H locs hP hS => ?_)
  refine lv_aload_n hx hb dX3_roll_18 rfl (lv_at hl 1 rfl) ?_
  refine k_mg (v := .ref (ad 12)) hx hb hts hown hF3 hK hP 15 (by decide) lf43 dX3_roll_19 rfl rfl ?_
  refine k_iconst hx hb dX3_roll_22 ?_
  refine lv_iload_n hx hb dX3_roll_23 rfl (lv_at hl 2 rfl) ?_
  refine k_imul hx hb dX3_roll_24 ?_
  refine k_iconst hx hb dX3_roll_25 ?_
  refine k_iadd hx hb dX3_roll_26 ?_
  refine lv_iload_n hx hb dX3_roll_27 rfl (lv_at hl 0 rfl) ?_
  refine k_mst (q := 12) (N := 24) (x := (3 * f) + 1) (v := (σ 6 f.toNat) / 3) hx hb hI hAc hK hP hS (by decide) rfl (by omega) (by omega) (by decide) dX3_roll_28 (fun H locs hP hS => ?_)
  refine lv_aload_n hx hb dX3_roll_29 rfl (lv_at hl 1 rfl) ?_
  refine k_mg (v := .ref (ad 12)) hx hb hts hown hF3 hK hP 15 (by decide) lf43 dX3_roll_30 rfl rfl ?_
  refine k_iconst hx hb dX3_roll_33 ?_
  refine lv_iload_n hx hb dX3_roll_34 rfl (lv_at hl 2 rfl) ?_
  refine k_imul hx hb dX3_roll_35 ?_
  refine k_iconst hx hb dX3_roll_36 ?_
  refine k_iadd hx hb dX3_roll_37 ?_
  refine lv_aload_n hx hb dX3_roll_38 rfl (lv_at hl 1 rfl) ?_
  refine k_mg (v := .ref (ad 6)) hx hb hts hown hF3 hK hP 9 (by decide) lf25 dX3_roll_39 rfl rfl ?_
  refine lv_iload_n hx hb dX3_roll_42 rfl (lv_at hl 2 rfl) ?_
  refine k_mld (q := 6) (N := 8) (x := f) hx hb hK hP (by decide) rfl (by omega) (by omega) (by decide) dX3_roll_43 ?_
  rw [show (up (up σ 12 ((3 * f).toNat) ((σ 6 f.toNat) / 3)) 12 (((3 * f) + 1).toNat) ((σ 6 f.toNat) / 3)) 6 (f).toNat = σ 6 f.toNat by simp [up]]
  refine k_iconst hx hb dX3_roll_44 ?_
  refine lv_iload_n hx hb dX3_roll_45 rfl (lv_at hl 0 rfl) ?_
  refine k_imul hx hb dX3_roll_46 ?_
  refine k_isub hx hb dX3_roll_47 ?_
  refine k_mst (q := 12) (N := 24) (x := (3 * f) + 2) (v := (σ 6 f.toNat) - (2 * ((σ 6 f.toNat) / 3))) hx hb hI hAc hK hP hS (by decide) rfl (by omega) (by omega) (by decide) dX3_roll_48 (fun H locs hP hS => ?_)
  refine lv_aload_n hx hb dX3_roll_49 rfl (lv_at hl 1 rfl) ?_
  refine k_mg (v := .ref (ad 11)) hx hb hts hown hF3 hK hP 14 (by decide) lf40 dX3_roll_50 rfl rfl ?_
  refine lv_iload_n hx hb dX3_roll_53 rfl (lv_at hl 2 rfl) ?_
  refine k_iconst hx hb dX3_roll_54 ?_
  refine k_mst (q := 11) (N := 8) (x := f) (v := 3) hx hb hI hAc hK hP hS (by decide) rfl (by omega) (by omega) (by decide) dX3_roll_55 (fun H locs hP hS => ?_)
  refine lv_aload_n hx hb dX3_roll_56 rfl (lv_at hl 1 rfl) ?_
  refine k_mg (v := .ref (ad 6)) hx hb hts hown hF3 hK hP 9 (by decide) lf25 dX3_roll_57 rfl rfl ?_
  refine lv_iload_n hx hb dX3_roll_60 rfl (lv_at hl 2 rfl) ?_
  refine k_iconst hx hb dX3_roll_61 ?_
  refine k_mst (q := 6) (N := 8) (x := f) (v := 0) hx hb hI hAc hK hP hS (by decide) rfl (by omega) (by omega) (by decide) dX3_roll_62 (fun H locs hP hS => ?_)
  have eF : up (up (up (up (up σ 12 ((3 * f).toNat) ((σ 6 f.toNat) / 3)) 12 (((3 * f) + 1).toNat) ((σ 6 f.toNat) / 3)) 12 (((3 * f) + 2).toNat) ((σ 6 f.toNat) - (2 * ((σ 6 f.toNat) / 3)))) 11 f.toNat 3) 6 f.toNat 0 = gRoll σ f := by rfl
  rw [eF] at hP
  exact W.vret hx hb hr (fun t ht hW => ⟨⟨_, rfl, rfl, by rw [ht]; exact hP, va_K.moved hW.alike hK⟩, hS.F ht⟩) hS.2.2 dX3_roll_63
set_option maxHeartbeats 4000000 in
set_option maxRecDepth 100000 in
theorem m_call (l : Launch) (G : va_G) (ad : Nat → Nat) (cy : Nat → ClassId) (hI : mI ad) (σ : Sg) (f : Int) (hf : nB f) (hf8 : 0 ≤ f ∧ f < 8) (hcnt : 0 ≤ σ 0 6 ∧ σ 0 6 ≤ 8) (hok : ∀ j, j ≤ 8 → mOk (itr (gPay f) σ j)) : mMv l yX3_call wsX3_call ({ frames := 1, cells := 0, slots := 0, locals := 23 } : Room) G ad cy [.ref (ad 0), .int (iI f)] σ (gCall σ f) := by
  intro sz
  refine Met.ofW (cc := cX3_call) (maxL := 5) (ret := none) (by decide) rfl ?_
  intro p e s m args below meth cd s₁ B hml hv
  obtain ⟨rfl, hsz, hP, hK⟩ := hv
  have hx := B.exec
  have hb := B.bytes
  have hr := B.returns
  have hts := atoms_spec (ws := wsX3_call) B.pre
  have hown : s.vm.findClass RX3 = some m.cls := findClass_of_methodNamed B.named
  have hlocks := B.notSynchronized
  subst hsz
  have hS : va_S (mA ad s.heap.size) s.heap s.heap [] := va_S.rf
  have hA : ∀ q, s.heap.size ≤ q → mA ad s.heap.size q := fun _ h => Or.inr h
  have hAc : ∀ j, j < 21 → mA ad s.heap.size (ad j) := fun j h => Or.inl ⟨j, h, rfl⟩
  have hl := lv_entry ([.ref (ad 0), .int (iI f)]) (n := 5) (Nat.le_of_ble_eq_true rfl)
  rw [lg_entry_eq]
  generalize (lg_sl ([.ref (ad 0), .int (iI f)]) ++ List.replicate (5 - (lg_sl ([.ref (ad 0), .int (iI f)])).length) Slot.unset).toArray = ls at hl ⊢
  have hl : lv_has ls 5 [(0, .ref (ad 0)), (1, .int (iI f))] := hl
  have hF3 : ∀ w ∈ wsX30, w ∈ wsX3_call := by decide +kernel
  have lf78 := hts (.fieldLink RX3 78 "HarvestLenderModel" "farmers" "I") (by decide +kernel)
  have lf19 := hts (.fieldLink RX3 19 "HarvestLenderModel" "groups" "[I") (by decide +kernel)
  have lf61 := hts (.fieldLink RX3 61 "HarvestLenderModel" "calls" "[I") (by decide +kernel)
  have lf22 := hts (.fieldLink RX3 22 "HarvestLenderModel" "purses" "[I") (by decide +kernel)
  have lf25 := hts (.fieldLink RX3 25 "HarvestLenderModel" "debts" "[I") (by decide +kernel)
  have loop : ∀ (d k : Nat), k ≤ (σ 0 6).toNat → (σ 0 6).toNat < k + d → ∀ (H : Heap) (locs : List Loc) (ls : Array Slot), va_P G vwCl (mW ad cy (itr (gPay f) σ k)) H → va_S (mA ad s.heap.size) s.heap H locs → lv_has ls 5 [(0, .ref (ad 0)), (1, .int (iI f)), (2, .int (iI (k : Int)))] → W p l e (headSpec wsX3_call ({ frames := 1, cells := 0, slots := 0, locals := 23 } : Room)).room s m ([.ref (ad 0), .int (iI f)] : List Value).toArray below meth cd H locs 0 0 (MQ below (va_Qv (fun u9 : Sg => u9 = gCall σ f) (mB G ad cy) (mA ad s.heap.size)) ([.ref (ad 0), .int (iI f)] : List Value).toArray s 0 0 (mA ad s.heap.size)) (F0 m 2 ls []) := by
    intro d
    induction d with
    | zero => intro k h1 h2; exact absurd h2 (by omega)
    | succ d ih =>
      intro k hk hd  H locs ls hP hS hl
      refine lv_iload_n hx hb dX3_call_2 rfl (lv_at hl 2 rfl) ?_
      refine lv_aload_n hx hb dX3_call_3 rfl (lv_at hl 0 rfl) ?_
      refine k_mg (v := .int (iI (σ 0 6))) hx hb hts hown hF3 hK hP 6 (by decide) lf78 dX3_call_4 rfl (congrArg (fun z => some (Value.int (iI z))) (by simp [itrP_0] : (itr (gPay f) σ k) 0 6 = σ 0 6)) ?_
      refine k_icmp_ge (tgt := 123) hx hb dX3_call_7 (by decide) (by omega) (by omega) (fun c_1 => ?_) (fun c_1 => ?_)
      · have eF : itr (gPay f) σ k = gCall σ f := by (rw [gCall, show (σ 0 6).toNat = k by omega])
        rw [eF] at hP
        exact W.vret hx hb hr (fun t ht hW => ⟨⟨_, rfl, rfl, by rw [ht]; exact hP, va_K.moved hW.alike hK⟩, hS.F ht⟩) hS.2.2 dX3_call_123
      · have hk8 : k < 8 := by omega
        obtain ⟨a5, a6, a18, a4, a13, a17, a11⟩ := hok k (by omega) k hk8
        obtain ⟨b5, b6, b18, b4, b13, b17, b11⟩ := hok k (by omega) f.toNat (by omega)
        refine lv_iload_n hx hb dX3_call_10 rfl (lv_at hl 2 rfl) ?_
        refine lv_iload_n hx hb dX3_call_11 rfl (lv_at hl 1 rfl) ?_
        refine k_icmp_eq (tgt := 117) hx hb dX3_call_12 (by decide) (by omega) (by omega) (fun c_2 => ?_) (fun c_2 => ?_)
        · refine lv_iinc (v := iI ((k : Int) + 1)) (lv' := [(2, .int (iI ((k : Int) + 1))), (0, .ref (ad 0)), (1, .int (iI f))]) hx hb dX3_call_117 hl (k := 2) rfl (iI_add _ _) (by decide) rfl (fun ls hl => ?_)
          refine lv_goto (tgt := 2) hx hb dX3_call_120 (by decide) ?_
          have q3 : itr (gPay f) σ k = itr (gPay f) σ (k + 1) := by first | rfl | ((rw [itr, gPay]; repeat' split) <;> first | rfl | (exfalso; omega))
          rw [q3] at hP
          exact ih (k + 1) (by omega) (by omega)  _ _ _ hP hS (lv_sub hl [1, 2, 0] rfl)
        · refine lv_aload_n hx hb dX3_call_15 rfl (lv_at hl 0 rfl) ?_
          refine k_mg (v := .ref (ad 4)) hx hb hts hown hF3 hK hP 7 (by decide) lf19 dX3_call_16 rfl rfl ?_
          refine lv_iload_n hx hb dX3_call_19 rfl (lv_at hl 2 rfl) ?_
          refine k_mld (q := 4) (N := 8) (x := (k : Int)) hx hb hK hP (by decide) rfl (by omega) (by omega) (by decide) dX3_call_20 ?_
          rw [show (itr (gPay f) σ k) 4 ((k : Int)).toNat = (itr (gPay f) σ k) 4 k by rfl]
          refine lv_aload_n hx hb dX3_call_21 rfl (lv_at hl 0 rfl) ?_
          refine k_mg (v := .ref (ad 4)) hx hb hts hown hF3 hK hP 7 (by decide) lf19 dX3_call_22 rfl rfl ?_
          refine lv_iload_n hx hb dX3_call_25 rfl (lv_at hl 1 rfl) ?_
          refine k_mld (q := 4) (N := 8) (x := f) hx hb hK hP (by decide) rfl (by omega) (by omega) (by decide) dX3_call_26 ?_
          refine k_icmp_ne (tgt := 117) hx hb dX3_call_27 (by decide) (by omega) (by omega) (fun c_4 => ?_) (fun c_4 => ?_)
          · refine lv_iinc (v := iI ((k : Int) + 1)) (lv' := [(2, .int (iI ((k : Int) + 1))), (0, .ref (ad 0)), (1, .int (iI f))]) hx hb dX3_call_117 hl (k := 2) rfl (iI_add _ _) (by decide) rfl (fun ls hl => ?_)
            refine lv_goto (tgt := 2) hx hb dX3_call_120 (by decide) ?_
            have q5 : itr (gPay f) σ k = itr (gPay f) σ (k + 1) := by first | rfl | ((rw [itr, gPay]; repeat' split) <;> first | rfl | (exfalso; omega))
            rw [q5] at hP
            exact ih (k + 1) (by omega) (by omega)  _ _ _ hP hS (lv_sub hl [1, 2, 0] rfl)
          · refine k_sipush hx hb dX3_call_30 (by decide) ?_
            refine lv_aload_n hx hb dX3_call_33 rfl (lv_at hl 0 rfl) ?_
            refine k_mg (v := .ref (ad 18)) hx hb hts hown hF3 hK hP 21 (by decide) lf61 dX3_call_34 rfl rfl ?_
            refine lv_iload_n hx hb dX3_call_37 rfl (lv_at hl 2 rfl) ?_
            refine k_mld (q := 18) (N := 8) (x := (k : Int)) hx hb hK hP (by decide) rfl (by omega) (by omega) (by decide) dX3_call_38 ?_
            rw [show (itr (gPay f) σ k) 18 ((k : Int)).toNat = (itr (gPay f) σ k) 18 k by rfl]
            refine k_isub hx hb dX3_call_39 ?_
            refine lv_istore_n (lv' := [(3, .int (iI (20000 - ((itr (gPay f) σ k) 18 k)))), (0, .ref (ad 0)), (1, .int (iI f)), (2, .int (iI (k : Int)))]) hx hb dX3_call_40 rfl hl (by decide) rfl (fun ls hl => ?_)
            have J_6 : W p l e (headSpec wsX3_call ({ frames := 1, cells := 0, slots := 0, locals := 23 } : Room)).room s m ([.ref (ad 0), .int (iI f)] : List Value).toArray below meth cd H locs 0 0 (MQ below (va_Qv (fun u9 : Sg => u9 = gCall σ f) (mB G ad cy) (mA ad s.heap.size)) ([.ref (ad 0), .int (iI f)] : List Value).toArray s 0 0 (mA ad s.heap.size)) (F0 m 61 ls [.int (iI (mn (20000 - ((itr (gPay f) σ k) 18 k)) ((itr (gPay f) σ k) 5 k)))]) := by
              have m1 := mn_le1 (20000 - (itr (gPay f) σ k) 18 k) ((itr (gPay f) σ k) 5 k)
              have m2 := mn_le2 (20000 - (itr (gPay f) σ k) 18 k) ((itr (gPay f) σ k) 5 k)
              have m3 := mn_ge (20000 - (itr (gPay f) σ k) 18 k) ((itr (gPay f) σ k) 5 k) 0 (by omega) (by omega)
              refine lv_istore (lv' := [(4, .int (iI (mn (20000 - ((itr (gPay f) σ k) 18 k)) ((itr (gPay f) σ k) 5 k)))), (3, .int (iI (20000 - ((itr (gPay f) σ k) 18 k)))), (0, .ref (ad 0)), (1, .int (iI f)), (2, .int (iI (k : Int)))]) hx hb dX3_call_61 hl (by decide) rfl (fun ls hl => ?_)
              have J_7 : W p l e (headSpec wsX3_call ({ frames := 1, cells := 0, slots := 0, locals := 23 } : Room)).room s m ([.ref (ad 0), .int (iI f)] : List Value).toArray below meth cd H locs 0 0 (MQ below (va_Qv (fun u9 : Sg => u9 = gCall σ f) (mB G ad cy) (mA ad s.heap.size)) ([.ref (ad 0), .int (iI f)] : List Value).toArray s 0 0 (mA ad s.heap.size)) (F0 m 85 ls [.int (iI (mn (mn (20000 - ((itr (gPay f) σ k) 18 k)) ((itr (gPay f) σ k) 5 k)) ((itr (gPay f) σ k) 6 f.toNat)))]) := by
                have m4 := mn_le1 (mn (20000 - (itr (gPay f) σ k) 18 k) ((itr (gPay f) σ k) 5 k)) ((itr (gPay f) σ k) 6 f.toNat)
                have m5 := mn_ge (mn (20000 - (itr (gPay f) σ k) 18 k) ((itr (gPay f) σ k) 5 k)) ((itr (gPay f) σ k) 6 f.toNat) 0 (by omega) (by omega)
                refine lv_istore (lv' := [(4, .int (iI (mn (mn (20000 - ((itr (gPay f) σ k) 18 k)) ((itr (gPay f) σ k) 5 k)) ((itr (gPay f) σ k) 6 f.toNat)))), (3, .int (iI (20000 - ((itr (gPay f) σ k) 18 k)))), (0, .ref (ad 0)), (1, .int (iI f)), (2, .int (iI (k : Int)))]) hx hb dX3_call_85 hl (by decide) rfl (fun ls hl => ?_)
                refine lv_aload_n hx hb dX3_call_87 rfl (lv_at hl 2 rfl) ?_
                refine k_mg (v := .ref (ad 5)) hx hb hts hown hF3 hK hP 8 (by decide) lf22 dX3_call_88 rfl rfl ?_
                refine lv_iload_n hx hb dX3_call_91 rfl (lv_at hl 4 rfl) ?_
                refine lv_dup2_11 hx hb dX3_call_92 rfl rfl ?_
                refine k_mld (q := 5) (N := 8) (x := (k : Int)) hx hb hK hP (by decide) rfl (by omega) (by omega) (by decide) dX3_call_93 ?_
                rw [show (itr (gPay f) σ k) 5 ((k : Int)).toNat = (itr (gPay f) σ k) 5 k by rfl]
                refine lv_iload hx hb dX3_call_94 (lv_at hl 0 rfl) ?_
                refine k_isub hx hb dX3_call_96 ?_
                refine k_mst (q := 5) (N := 8) (x := (k : Int)) (v := ((itr (gPay f) σ k) 5 k) - (mn (mn (20000 - ((itr (gPay f) σ k) 18 k)) ((itr (gPay f) σ k) 5 k)) ((itr (gPay f) σ k) 6 f.toNat))) hx hb hI hAc hK hP hS (by decide) rfl (by omega) (by omega) (by decide) dX3_call_97 (fun H locs hP hS => ?_)
                have hP : va_P G vwCl (mW ad cy (up (itr (gPay f) σ k) 5 k (((itr (gPay f) σ k) 5 k) - (mn (mn (20000 - ((itr (gPay f) σ k) 18 k)) ((itr (gPay f) σ k) 5 k)) ((itr (gPay f) σ k) 6 f.toNat))))) H := hP
                refine lv_aload_n hx hb dX3_call_98 rfl (lv_at hl 2 rfl) ?_
                refine k_mg (v := .ref (ad 18)) hx hb hts hown hF3 hK hP 21 (by decide) lf61 dX3_call_99 rfl rfl ?_
                refine lv_iload_n hx hb dX3_call_102 rfl (lv_at hl 4 rfl) ?_
                refine lv_dup2_11 hx hb dX3_call_103 rfl rfl ?_
                refine k_mld (q := 18) (N := 8) (x := (k : Int)) hx hb hK hP (by decide) rfl (by omega) (by omega) (by decide) dX3_call_104 ?_
                rw [show (up (itr (gPay f) σ k) 5 k (((itr (gPay f) σ k) 5 k) - (mn (mn (20000 - ((itr (gPay f) σ k) 18 k)) ((itr (gPay f) σ k) 5 k)) ((itr (gPay f) σ k) 6 f.toNat)))) 18 ((k : Int)).toNat = (itr (gPay f) σ k) 18 k by simp [up]]
                refine lv_iload hx hb dX3_call_105 (lv_at hl 0 rfl) ?_
                refine k_iadd hx hb dX3_call_107 ?_
                refine k_mst (q := 18) (N := 8) (x := (k : Int)) (v := ((itr (gPay f) σ k) 18 k) + (mn (mn (20000 - ((itr (gPay f) σ k) 18 k)) ((itr (gPay f) σ k) 5 k)) ((itr (gPay f) σ k) 6 f.toNat))) hx hb hI hAc hK hP hS (by decide) rfl (by omega) (by omega) (by decide) dX3_call_108 (fun H locs hP hS => ?_)
                have hP : va_P G vwCl (mW ad cy (up (up (itr (gPay f) σ k) 5 k (((itr (gPay f) σ k) 5 k) - (mn (mn (20000 - ((itr (gPay f) σ k) 18 k)) ((itr (gPay f) σ k) 5 k)) ((itr (gPay f) σ k) 6 f.toNat)))) 18 k (((itr (gPay f) σ k) 18 k) + (mn (mn (20000 - ((itr (gPay f) σ k) 18 k)) ((itr (gPay f) σ k) 5 k)) ((itr (gPay f) σ k) 6 f.toNat))))) H := hP
                refine lv_aload_n hx hb dX3_call_109 rfl (lv_at hl 2 rfl) ?_
                refine lv_iload_n hx hb dX3_call_110 rfl (lv_at hl 3 rfl) ?_
                refine lv_iload hx hb dX3_call_111 (lv_at hl 0 rfl) ?_
                refine k_iconst hx hb dX3_call_113 ?_
                refine k_mcv (As := [.int (iI f), .int (iI (mn (mn (20000 - ((itr (gPay f) σ k) 18 k)) ((itr (gPay f) σ k) 5 k)) ((itr (gPay f) σ k) 6 f.toNat))), .int (iI 4)]) (rest := []) ⟨hx, hb, hml, hown, hts⟩ (m_lower l G ad cy hI (up (up (itr (gPay f) σ k) 5 k (((itr (gPay f) σ k) 5 k) - (mn (mn (20000 - ((itr (gPay f) σ k) 18 k)) ((itr (gPay f) σ k) 5 k)) ((itr (gPay f) σ k) 6 f.toNat)))) 18 k (((itr (gPay f) σ k) 18 k) + (mn (mn (20000 - ((itr (gPay f) σ k) 18 k)) ((itr (gPay f) σ k) 5 k)) ((itr (gPay f) σ k) 6 f.toNat)))) f (mn (mn (20000 - ((itr (gPay f) σ k) 18 k)) ((itr (gPay f) σ k) 5 k)) ((itr (gPay f) σ k) 6 f.toNat)) 4 (by omega) (by omega) (by decide) (by omega) (by decide)) (cwV 3 hts gX3_call_X3_lower rfl rfl rfl (by decide +kernel) ⟨Nat.le_of_ble_eq_true rfl, Nat.le_of_ble_eq_true rfl⟩) (mRecv hK hP) hAc hA hK hP hS rfl hl.1 rfl (Nat.le_of_ble_eq_true rfl) dX3_call_114 ⟨Nat.zero_le _, Nat.zero_le _⟩ (fun H locs hP hS => ?_)
                refine lv_iinc (v := iI ((k : Int) + 1)) (lv' := [(2, .int (iI ((k : Int) + 1))), (4, .int (iI (mn (mn (20000 - ((itr (gPay f) σ k) 18 k)) ((itr (gPay f) σ k) 5 k)) ((itr (gPay f) σ k) 6 f.toNat)))), (3, .int (iI (20000 - ((itr (gPay f) σ k) 18 k)))), (0, .ref (ad 0)), (1, .int (iI f))]) hx hb dX3_call_117 hl (k := 4) rfl (iI_add _ _) (by decide) rfl (fun ls hl => ?_)
                refine lv_goto (tgt := 2) hx hb dX3_call_120 (by decide) ?_
                have q8 : gLower (up (up (itr (gPay f) σ k) 5 k (((itr (gPay f) σ k) 5 k) - (mn (mn (20000 - ((itr (gPay f) σ k) 18 k)) ((itr (gPay f) σ k) 5 k)) ((itr (gPay f) σ k) 6 f.toNat)))) 18 k (((itr (gPay f) σ k) 18 k) + (mn (mn (20000 - ((itr (gPay f) σ k) 18 k)) ((itr (gPay f) σ k) 5 k)) ((itr (gPay f) σ k) 6 f.toNat)))) f (mn (mn (20000 - ((itr (gPay f) σ k) 18 k)) ((itr (gPay f) σ k) 5 k)) ((itr (gPay f) σ k) 6 f.toNat)) 4 = itr (gPay f) σ (k + 1) := by first | rfl | ((rw [itr, gPay]; repeat' split) <;> first | rfl | (exfalso; omega))
                rw [q8] at hP
                exact ih (k + 1) (by omega) (by omega)  _ _ _ hP hS (lv_sub hl [3, 4, 0] rfl)
              refine lv_aload_n hx hb dX3_call_63 rfl (lv_at hl 2 rfl) ?_
              refine k_mg (v := .ref (ad 6)) hx hb hts hown hF3 hK hP 9 (by decide) lf25 dX3_call_64 rfl rfl ?_
              refine lv_iload_n hx hb dX3_call_67 rfl (lv_at hl 3 rfl) ?_
              refine k_mld (q := 6) (N := 8) (x := f) hx hb hK hP (by decide) rfl (by omega) (by omega) (by decide) dX3_call_68 ?_
              refine lv_iload hx hb dX3_call_69 (lv_at hl 0 rfl) ?_
              refine k_icmp_ge (tgt := 83) hx hb dX3_call_71 (by decide) (by omega) (by omega) (fun c_9 => ?_) (fun c_9 => ?_)
              · refine lv_iload hx hb dX3_call_83 (lv_at hl 0 rfl) ?_
                exact (by have e9 : mn (mn (20000 - ((itr (gPay f) σ k) 18 k)) ((itr (gPay f) σ k) 5 k)) ((itr (gPay f) σ k) 6 f.toNat) = mn (20000 - ((itr (gPay f) σ k) 18 k)) ((itr (gPay f) σ k) 5 k) := gMin_eq (by omega); rw [e9] at J_7; exact J_7)
              · refine lv_aload_n hx hb dX3_call_74 rfl (lv_at hl 2 rfl) ?_
                refine k_mg (v := .ref (ad 6)) hx hb hts hown hF3 hK hP 9 (by decide) lf25 dX3_call_75 rfl rfl ?_
                refine lv_iload_n hx hb dX3_call_78 rfl (lv_at hl 3 rfl) ?_
                refine k_mld (q := 6) (N := 8) (x := f) hx hb hK hP (by decide) rfl (by omega) (by omega) (by decide) dX3_call_79 ?_
                refine lv_goto (tgt := 85) hx hb dX3_call_80 (by decide) ?_
                exact (by have e9 : mn (mn (20000 - ((itr (gPay f) σ k) 18 k)) ((itr (gPay f) σ k) 5 k)) ((itr (gPay f) σ k) 6 f.toNat) = (itr (gPay f) σ k) 6 f.toNat := gMin_eq (by omega); rw [e9] at J_7; exact J_7)
            refine lv_aload_n hx hb dX3_call_41 rfl (lv_at hl 1 rfl) ?_
            refine k_mg (v := .ref (ad 5)) hx hb hts hown hF3 hK hP 8 (by decide) lf22 dX3_call_42 rfl rfl ?_
            refine lv_iload_n hx hb dX3_call_45 rfl (lv_at hl 3 rfl) ?_
            refine k_mld (q := 5) (N := 8) (x := (k : Int)) hx hb hK hP (by decide) rfl (by omega) (by omega) (by decide) dX3_call_46 ?_
            rw [show (itr (gPay f) σ k) 5 ((k : Int)).toNat = (itr (gPay f) σ k) 5 k by rfl]
            refine lv_iload_n hx hb dX3_call_47 rfl (lv_at hl 0 rfl) ?_
            refine k_icmp_ge (tgt := 60) hx hb dX3_call_48 (by decide) (by omega) (by omega) (fun c_10 => ?_) (fun c_10 => ?_)
            · refine lv_iload_n hx hb dX3_call_60 rfl (lv_at hl 0 rfl) ?_
              exact (by have e9 : mn (20000 - ((itr (gPay f) σ k) 18 k)) ((itr (gPay f) σ k) 5 k) = 20000 - ((itr (gPay f) σ k) 18 k) := gMin_eq (by omega); rw [e9] at J_6; exact J_6)
            · refine lv_aload_n hx hb dX3_call_51 rfl (lv_at hl 1 rfl) ?_
              refine k_mg (v := .ref (ad 5)) hx hb hts hown hF3 hK hP 8 (by decide) lf22 dX3_call_52 rfl rfl ?_
              refine lv_iload_n hx hb dX3_call_55 rfl (lv_at hl 3 rfl) ?_
              refine k_mld (q := 5) (N := 8) (x := (k : Int)) hx hb hK hP (by decide) rfl (by omega) (by omega) (by decide) dX3_call_56 ?_
              rw [show (itr (gPay f) σ k) 5 ((k : Int)).toNat = (itr (gPay f) σ k) 5 k by rfl]
              refine lv_goto (tgt := 61) hx hb dX3_call_57 (by decide) ?_
              exact (by have e9 : mn (20000 - ((itr (gPay f) σ k) 18 k)) ((itr (gPay f) σ k) 5 k) = (itr (gPay f) σ k) 5 k := gMin_eq (by omega); rw [e9] at J_6; exact J_6)
  refine k_iconst hx hb dX3_call_0 ?_
  refine lv_istore_n (lv' := [(2, .int (iI 0)), (0, .ref (ad 0)), (1, .int (iI f))]) hx hb dX3_call_1 rfl hl (by decide) rfl (fun ls hl => ?_)
  have q11 : σ = itr (gPay f) σ 0 := by first | rfl | ((rw [itr, gPay]; repeat' split) <;> first | rfl | (exfalso; omega))
  rw [q11] at hP
  exact loop ((σ 0 6).toNat + 1) 0 (Nat.zero_le _) (by omega)  _ _ _ hP hS (lv_sub hl [1, 2, 0] rfl)
set_option maxHeartbeats 4000000 in
set_option maxRecDepth 100000 in
theorem m_next (l : Launch) (G : va_G) (ad : Nat → Nat) (cy : Nat → ClassId) (hI : mI ad) (σ : Sg)  (hB : mBd σ) (h1 : ∀ k : Nat, k < 8 → 0 ≤ itr gIStep (up (up σ 0 0 0) 0 2 ((σ 0 2) + 1)) k 6 k ∧ itr gIStep (up (up σ 0 0 0) 0 2 ((σ 0 2) + 1)) k 6 k ≤ 2147483647) (h2 : ∀ k : Nat, k < 8 → hvOk (itr gHStep (gNext0 σ) k) k) : mMi l yX3_next wsX3_next ({ frames := 3, cells := 0, slots := 0, locals := 70 } : Room) G ad cy [.ref (ad 0)] σ (rOf (qNext σ) (σ 0 2 + 1)) (tOf (qNext σ) σ (gNext σ)) := by
  intro sz
  refine Met.ofW (cc := cX3_next) (maxL := 2) (ret := (some .int)) (by decide) rfl ?_
  intro p e s m args below meth cd s₁ B hml hv
  obtain ⟨rfl, hsz, hP, hK⟩ := hv
  have hx := B.exec
  have hb := B.bytes
  have hr := B.returns
  have hts := atoms_spec (ws := wsX3_next) B.pre
  have hown : s.vm.findClass RX3 = some m.cls := findClass_of_methodNamed B.named
  have hlocks := B.notSynchronized
  subst hsz
  have hS : va_S (mA ad s.heap.size) s.heap s.heap [] := va_S.rf
  have hA : ∀ q, s.heap.size ≤ q → mA ad s.heap.size q := fun _ h => Or.inr h
  have hAc : ∀ j, j < 21 → mA ad s.heap.size (ad j) := fun j h => Or.inl ⟨j, h, rfl⟩
  have hl := lv_entry ([.ref (ad 0)]) (n := 2) (Nat.le_of_ble_eq_true rfl)
  rw [lg_entry_eq]
  generalize (lg_sl ([.ref (ad 0)]) ++ List.replicate (2 - (lg_sl ([.ref (ad 0)])).length) Slot.unset).toArray = ls at hl ⊢
  have hl : lv_has ls 2 [(0, .ref (ad 0))] := hl
  have hF3 : ∀ w ∈ wsX30, w ∈ wsX3_next := by decide +kernel
  have lf78 := hts (.fieldLink RX3 78 "HarvestLenderModel" "farmers" "I") (by decide +kernel)
  have lf101 := hts (.fieldLink RX3 101 "HarvestLenderModel" "stage" "I") (by decide +kernel)
  have lf46 := hts (.fieldLink RX3 46 "HarvestLenderModel" "crops" "[I") (by decide +kernel)
  have lf25 := hts (.fieldLink RX3 25 "HarvestLenderModel" "debts" "[I") (by decide +kernel)
  have lc120 := hts (.constantLong RX3 120 (2)) (by decide +kernel)
  have lc115 := hts (.constantLong RX3 115 (100)) (by decide +kernel)
  have hcnt := hB.1.1
  have hstg := hB.1.2.2
  have hsea := hB.1.2.1
  have loop2 : ∀ (d k : Nat), k ≤ (σ 0 6).toNat → (σ 0 6).toNat < k + d → (¬ σ 0 2 + 1 = 4 → k = 0) → (¬ σ 0 2 = 4) → ∀ (H : Heap) (locs : List Loc) (ls : Array Slot), va_P G vwCl (mW ad cy (itr gHStep (gNext0 σ) k)) H → va_S (mA ad s.heap.size) s.heap H locs → lv_has ls 2 [(0, .ref (ad 0)), (1, .int (iI (k : Int)))] → W p l e (headSpec wsX3_next ({ frames := 3, cells := 0, slots := 0, locals := 70 } : Room)).room s m ([.ref (ad 0)] : List Value).toArray below meth cd H locs 0 0 (MQ below (va_Qi (fun (v9 : Int32) (u9 : Sg) => v9 = iI (rOf (qNext σ) (σ 0 2 + 1)) ∧ u9 = tOf (qNext σ) σ (gNext σ)) (mB G ad cy) (mA ad s.heap.size)) ([.ref (ad 0)] : List Value).toArray s 0 0 (mA ad s.heap.size)) (F0 m 71 ls []) := by
    intro d
    induction d with
    | zero => intro k h1 h2; exact absurd h2 (by omega)
    | succ d ih =>
      intro k hk hd hq0 hq1 H locs ls hP hS hl
      refine lv_iload_n hx hb dX3_next_71 rfl (lv_at hl 1 rfl) ?_
      refine lv_aload_n hx hb dX3_next_72 rfl (lv_at hl 0 rfl) ?_
      refine k_mg (v := .int (iI (σ 0 6))) hx hb hts hown hF3 hK hP 6 (by decide) lf78 dX3_next_73 rfl (congrArg (fun z => some (Value.int (iI z))) (by simp [gNext0_0, itrH_0] : (itr gHStep (gNext0 σ) k) 0 6 = σ 0 6)) ?_
      refine k_icmp_ge (tgt := 108) hx hb dX3_next_76 (by decide) (by omega) (by omega) (fun c_1 => ?_) (fun c_1 => ?_)
      · have e : itr gHStep (gNext0 σ) k = gNext σ := gNext_at (by omega)
        have e2 : gNext σ 0 2 = σ 0 2 + 1 := by rw [← e, itrH_0, gNext0_2]
        rw [e] at hP
        refine lv_aload_n hx hb dX3_next_108 rfl (lv_at hl 0 rfl) ?_
        refine k_mg (v := .int (iI (σ 0 2 + 1))) hx hb hts hown hF3 hK hP 2 (by decide) lf101 dX3_next_109 rfl (congrArg (fun z => some (Value.int (iI z))) (by simp [e2] : (gNext σ) 0 2 = σ 0 2 + 1)) ?_
        have eQ : qNext σ = 0 := by unfold qNext; (repeat' split) <;> first | rfl | omega
        have eF : gNext σ = tOf (qNext σ) σ (gNext σ) := by (rw [tOf_0 eQ]); try (rfl)
        rw [eF] at hP
        have eR : σ 0 2 + 1 = rOf (qNext σ) (σ 0 2 + 1) := by (rw [rOf_0 eQ]); try (rfl)
        exact W.iret hx hb hr (fun t ht hW => ⟨⟨_, _, rfl, ⟨congrArg iI eR, rfl⟩, by rw [ht]; exact hP, va_K.moved hW.alike hK⟩, hS.F ht⟩) hS.2.2 dX3_next_112
      · have hk8 : k < 8 := by omega
        obtain ⟨p13, p14, p17, p16, p6, pc⟩ := h2 k hk8
        refine lv_aload_n hx hb dX3_next_79 rfl (lv_at hl 0 rfl) ?_
        refine k_mg (v := .int (iI (σ 0 2 + 1))) hx hb hts hown hF3 hK hP 2 (by decide) lf101 dX3_next_80 rfl (congrArg (fun z => some (Value.int (iI z))) (by simp [gNext0_2, itrH_0] : (itr gHStep (gNext0 σ) k) 0 2 = σ 0 2 + 1)) ?_
        refine k_iconst hx hb dX3_next_83 ?_
        refine k_icmp_ne (tgt := 108) hx hb dX3_next_84 (by decide) (by omega) (by decide) (fun c_2 => ?_) (fun c_2 => ?_)
        · have e : itr gHStep (gNext0 σ) k = gNext σ := gNext_at (by omega)
          have e2 : gNext σ 0 2 = σ 0 2 + 1 := by rw [← e, itrH_0, gNext0_2]
          rw [e] at hP
          refine lv_aload_n hx hb dX3_next_108 rfl (lv_at hl 0 rfl) ?_
          refine k_mg (v := .int (iI (σ 0 2 + 1))) hx hb hts hown hF3 hK hP 2 (by decide) lf101 dX3_next_109 rfl (congrArg (fun z => some (Value.int (iI z))) (by simp [e2] : (gNext σ) 0 2 = σ 0 2 + 1)) ?_
          have eQ : qNext σ = 0 := by unfold qNext; (repeat' split) <;> first | rfl | omega
          have eF : gNext σ = tOf (qNext σ) σ (gNext σ) := by (rw [tOf_0 eQ]); try (rfl)
          rw [eF] at hP
          have eR : σ 0 2 + 1 = rOf (qNext σ) (σ 0 2 + 1) := by (rw [rOf_0 eQ]); try (rfl)
          exact W.iret hx hb hr (fun t ht hW => ⟨⟨_, _, rfl, ⟨congrArg iI eR, rfl⟩, by rw [ht]; exact hP, va_K.moved hW.alike hK⟩, hS.F ht⟩) hS.2.2 dX3_next_112
        · refine lv_aload_n hx hb dX3_next_87 rfl (lv_at hl 0 rfl) ?_
          refine k_mg (v := .ref (ad 13)) hx hb hts hown hF3 hK hP 16 (by decide) lf46 dX3_next_88 rfl rfl ?_
          refine lv_iload_n hx hb dX3_next_91 rfl (lv_at hl 1 rfl) ?_
          refine k_mld (q := 13) (N := 8) (x := (k : Int)) hx hb hK hP (by decide) rfl (by omega) (by omega) (by decide) dX3_next_92 ?_
          rw [show (itr gHStep (gNext0 σ) k) 13 ((k : Int)).toNat = (itr gHStep (gNext0 σ) k) 13 k by rfl]
          refine k_iconst hx hb dX3_next_93 ?_
          refine k_icmp_eq (tgt := 102) hx hb dX3_next_94 (by decide) (by omega) (by decide) (fun c_3 => ?_) (fun c_3 => ?_)
          · refine lv_iinc (v := iI ((k : Int) + 1)) (lv' := [(1, .int (iI ((k : Int) + 1))), (0, .ref (ad 0))]) hx hb dX3_next_102 hl (k := 1) rfl (iI_add _ _) (by decide) rfl (fun ls hl => ?_)
            refine lv_goto (tgt := 71) hx hb dX3_next_105 (by decide) ?_
            have q4 : itr gHStep (gNext0 σ) k = itr gHStep (gNext0 σ) (k + 1) := by first | rfl | ((rw [itr, gHStep]; repeat' split) <;> first | rfl | (exfalso; omega))
            rw [q4] at hP
            exact ih (k + 1) (by omega) (by omega) (fun h => by first | rfl | (exfalso; omega)) (by omega) _ _ _ hP hS (lv_sub hl [1, 0] rfl)
          · refine lv_aload_n hx hb dX3_next_97 rfl (lv_at hl 0 rfl) ?_
            refine lv_iload_n hx hb dX3_next_98 rfl (lv_at hl 1 rfl) ?_
            refine k_mcv (As := [.int (iI (k : Int))]) (rest := []) ⟨hx, hb, hml, hown, hts⟩ (m_harvest l G ad cy hI (itr gHStep (gNext0 σ) k) (k : Int) (by (try simp only [Int.toNat_natCast]); omega) (by (try simp only [Int.toNat_natCast]); omega) (by (try simp only [Int.toNat_natCast]); omega) (by (try simp only [Int.toNat_natCast]); omega) (pc _ (by (try simp only [Int.toNat_natCast]); omega)).2 (by (try simp only [Int.toNat_natCast]); omega) (by (try simp only [Int.toNat_natCast]); omega) (pc _ (by (try simp only [Int.toNat_natCast]); omega)).1 (by (try simp only [Int.toNat_natCast]); omega)) (cwV 1 hts gX3_next_X3_harvest rfl rfl rfl (by decide +kernel) ⟨Nat.le_of_ble_eq_true rfl, Nat.le_of_ble_eq_true rfl⟩) (mRecv hK hP) hAc hA hK hP hS rfl hl.1 rfl (Nat.le_of_ble_eq_true rfl) dX3_next_99 ⟨Nat.zero_le _, Nat.zero_le _⟩ (fun H locs hP hS => ?_)
            refine lv_iinc (v := iI ((k : Int) + 1)) (lv' := [(1, .int (iI ((k : Int) + 1))), (0, .ref (ad 0))]) hx hb dX3_next_102 hl (k := 1) rfl (iI_add _ _) (by decide) rfl (fun ls hl => ?_)
            refine lv_goto (tgt := 71) hx hb dX3_next_105 (by decide) ?_
            have q5 : gHarvest (itr gHStep (gNext0 σ) k) (k : Int) = itr gHStep (gNext0 σ) (k + 1) := by first | rfl | ((rw [itr, gHStep]; repeat' split) <;> first | rfl | (exfalso; omega))
            rw [q5] at hP
            exact ih (k + 1) (by omega) (by omega) (fun h => by first | rfl | (exfalso; omega)) (by omega) _ _ _ hP hS (lv_sub hl [1, 0] rfl)
  have loop1 : ∀ (d k : Nat), k ≤ (σ 0 6).toNat → (σ 0 6).toNat < k + d → (¬ σ 0 2 = 4) → ∀ (H : Heap) (locs : List Loc) (ls : Array Slot), va_P G vwCl (mW ad cy (itr gIStep (up (up σ 0 0 0) 0 2 ((σ 0 2) + 1)) k)) H → va_S (mA ad s.heap.size) s.heap H locs → lv_has ls 2 [(0, .ref (ad 0)), (1, .int (iI (k : Int)))] → W p l e (headSpec wsX3_next ({ frames := 3, cells := 0, slots := 0, locals := 70 } : Room)).room s m ([.ref (ad 0)] : List Value).toArray below meth cd H locs 0 0 (MQ below (va_Qi (fun (v9 : Int32) (u9 : Sg) => v9 = iI (rOf (qNext σ) (σ 0 2 + 1)) ∧ u9 = tOf (qNext σ) σ (gNext σ)) (mB G ad cy) (mA ad s.heap.size)) ([.ref (ad 0)] : List Value).toArray s 0 0 (mA ad s.heap.size)) (F0 m 34 ls []) := by
    intro d
    induction d with
    | zero => intro k h1 h2; exact absurd h2 (by omega)
    | succ d ih =>
      intro k hk hd hq0 H locs ls hP hS hl
      refine lv_iload_n hx hb dX3_next_34 rfl (lv_at hl 1 rfl) ?_
      refine lv_aload_n hx hb dX3_next_35 rfl (lv_at hl 0 rfl) ?_
      refine k_mg (v := .int (iI (σ 0 6))) hx hb hts hown hF3 hK hP 6 (by decide) lf78 dX3_next_36 rfl (congrArg (fun z => some (Value.int (iI z))) (by simp [itrI_0, up] : (itr gIStep (up (up σ 0 0 0) 0 2 ((σ 0 2) + 1)) k) 0 6 = σ 0 6)) ?_
      refine k_icmp_ge (tgt := 69) hx hb dX3_next_39 (by decide) (by omega) (by omega) (fun c_6 => ?_) (fun c_6 => ?_)
      · have hP : va_P G vwCl (mW ad cy (gNext0 σ)) H := by (have e : k = (σ 0 6).toNat := by omega); (rw [e] at hP); exact hP
        refine k_iconst hx hb dX3_next_69 ?_
        refine lv_istore_n (lv' := [(1, .int (iI 0)), (0, .ref (ad 0))]) hx hb dX3_next_70 rfl hl (by decide) rfl (fun ls hl => ?_)
        have q7 : gNext0 σ = itr gHStep (gNext0 σ) 0 := by first | rfl | ((rw [itr, gHStep]; repeat' split) <;> first | rfl | (exfalso; omega))
        rw [q7] at hP
        exact loop2 ((σ 0 6).toNat + 1) 0 (Nat.zero_le _) (by omega) (fun h => by first | rfl | (exfalso; omega)) (by omega) _ _ _ hP hS (lv_sub hl [1, 0] rfl)
      · have hk8 : k < 8 := by omega
        have i1 := h1 k hk8
        refine lv_aload_n hx hb dX3_next_42 rfl (lv_at hl 0 rfl) ?_
        refine lv_iload_n hx hb dX3_next_43 rfl (lv_at hl 1 rfl) ?_
        refine lv_aload_n hx hb dX3_next_44 rfl (lv_at hl 0 rfl) ?_
        refine k_mg (v := .ref (ad 6)) hx hb hts hown hF3 hK hP 9 (by decide) lf25 dX3_next_45 rfl rfl ?_
        refine lv_iload_n hx hb dX3_next_48 rfl (lv_at hl 1 rfl) ?_
        refine k_mld (q := 6) (N := 8) (x := (k : Int)) hx hb hK hP (by decide) rfl (by omega) (by omega) (by decide) dX3_next_49 ?_
        rw [show (itr gIStep (up (up σ 0 0 0) 0 2 ((σ 0 2) + 1)) k) 6 ((k : Int)).toNat = (itr gIStep (up (up σ 0 0 0) 0 2 ((σ 0 2) + 1)) k) 6 k by rfl]
        refine k_i2l hx hb dX3_next_50 (by omega) ?_
        refine k_ldc2 hx hb (2) hown lc120 (by decide) dX3_next_51 ?_
        refine k_lmul hx hb dX3_next_54 ?_
        refine k_ldc2 hx hb (100) hown lc115 (by decide) dX3_next_55 ?_
        refine k_ldiv hx hb dX3_next_58 (by omega) (by omega) (by decide) (by decide) ?_
        refine k_l2i hx hb dX3_next_59 ?_
        refine k_mcv (As := [.int (iI (k : Int)), .int (iI ((((itr gIStep (up (up σ 0 0 0) 0 2 ((σ 0 2) + 1)) k) 6 k) * 2) / 100))]) (rest := []) ⟨hx, hb, hml, hown, hts⟩ (m_charge l G ad cy hI (itr gIStep (up (up σ 0 0 0) 0 2 ((σ 0 2) + 1)) k) (k : Int) ((((itr gIStep (up (up σ 0 0 0) 0 2 ((σ 0 2) + 1)) k) 6 k) * 2) / 100) (by (try simp only [Int.toNat_natCast]); omega) (by (try simp only [Int.toNat_natCast]); omega) (by (try simp only [Int.toNat_natCast]); omega)) (cwV 2 hts gX3_next_X3_charge rfl rfl rfl (by decide +kernel) ⟨Nat.le_of_ble_eq_true rfl, Nat.le_of_ble_eq_true rfl⟩) (mRecv hK hP) hAc hA hK hP hS rfl hl.1 rfl (Nat.le_of_ble_eq_true rfl) dX3_next_60 ⟨Nat.zero_le _, Nat.zero_le _⟩ (fun H locs hP hS => ?_)
        refine lv_iinc (v := iI ((k : Int) + 1)) (lv' := [(1, .int (iI ((k : Int) + 1))), (0, .ref (ad 0))]) hx hb dX3_next_63 hl (k := 1) rfl (iI_add _ _) (by decide) rfl (fun ls hl => ?_)
        refine lv_goto (tgt := 34) hx hb dX3_next_66 (by decide) ?_
        have q8 : gCharge (itr gIStep (up (up σ 0 0 0) 0 2 ((σ 0 2) + 1)) k) (k : Int) ((((itr gIStep (up (up σ 0 0 0) 0 2 ((σ 0 2) + 1)) k) 6 k) * 2) / 100) = itr gIStep (up (up σ 0 0 0) 0 2 ((σ 0 2) + 1)) (k + 1) := by rfl
        rw [q8] at hP
        exact ih (k + 1) (by omega) (by omega) (by omega) _ _ _ hP hS (lv_sub hl [1, 0] rfl)
  refine lv_aload_n hx hb dX3_next_0 rfl (lv_at hl 0 rfl) ?_
  refine lv_aload_n hx hb dX3_next_1 rfl (lv_at hl 0 rfl) ?_
  refine k_mg (v := .int (iI (σ 0 2))) hx hb hts hown hF3 hK hP 2 (by decide) lf101 dX3_next_2 rfl rfl ?_
  refine k_iconst hx hb dX3_next_5 ?_
  refine k_icmp_ne (tgt := 13) hx hb dX3_next_6 (by decide) (by omega) (by decide) (fun c_9 => ?_) (fun c_9 => ?_)
  · refine k_iconst hx hb dX3_next_13 ?_
    refine k_mci (As := [.int (iI 0)]) (rest := []) ⟨hx, hb, hml, hown, hts⟩ (m_refused l G ad cy hI σ 0 (by decide)) (cwV 1 hts gX3_next_X3_refused rfl rfl rfl (by decide +kernel) ⟨Nat.le_of_ble_eq_true rfl, Nat.le_of_ble_eq_true rfl⟩) (mRecv hK hP) hAc hA hK hP hS rfl hl.1 rfl (Nat.le_of_ble_eq_true rfl) dX3_next_14 ⟨Nat.zero_le _, Nat.zero_le _⟩ (fun H locs hP hS => ?_)
    refine k_if_eq (tgt := 22) hx hb dX3_next_17 (by decide) (gNz_nB _) (fun _ => ?_) (fun c9 => absurd c9 (by decide))
    refine lv_aload_n hx hb dX3_next_22 rfl (lv_at hl 0 rfl) ?_
    refine lv_dup hx hb dX3_next_23 rfl ?_
    refine k_mg (v := .int (iI (σ 0 2))) hx hb hts hown hF3 hK hP 2 (by decide) lf101 dX3_next_24 rfl (congrArg (fun z => some (Value.int (iI z))) (by simp [up] : (up σ 0 0 0) 0 2 = σ 0 2)) ?_
    refine k_iconst hx hb dX3_next_27 ?_
    refine k_iadd hx hb dX3_next_28 ?_
    refine k_mp (v := (σ 0 2) + 1) hx hb hts hown hF3 hI hAc hK hP hS 2 (by decide) (by decide) lf101 dX3_next_29 rfl rfl (by decide +kernel) (fun H locs hP hS => ?_)
    refine k_iconst hx hb dX3_next_32 ?_
    refine lv_istore_n (lv' := [(1, .int (iI 0)), (0, .ref (ad 0))]) hx hb dX3_next_33 rfl hl (by decide) rfl (fun ls hl => ?_)
    have q11 : up (up σ 0 0 0) 0 2 ((σ 0 2) + 1) = itr gIStep (up (up σ 0 0 0) 0 2 ((σ 0 2) + 1)) 0 := by rfl
    rw [q11] at hP
    exact loop1 ((σ 0 6).toNat + 1) 0 (Nat.zero_le _) (by omega) (by omega) _ _ _ hP hS (lv_sub hl [1, 0] rfl)
  · refine k_iconst hx hb dX3_next_9 ?_
    refine lv_goto (tgt := 14) hx hb dX3_next_10 (by decide) ?_
    refine k_mci (As := [.int (iI 1)]) (rest := []) ⟨hx, hb, hml, hown, hts⟩ (m_refused l G ad cy hI σ 1 (by decide)) (cwV 1 hts gX3_next_X3_refused rfl rfl rfl (by decide +kernel) ⟨Nat.le_of_ble_eq_true rfl, Nat.le_of_ble_eq_true rfl⟩) (mRecv hK hP) hAc hA hK hP hS rfl hl.1 rfl (Nat.le_of_ble_eq_true rfl) dX3_next_14 ⟨Nat.zero_le _, Nat.zero_le _⟩ (fun H locs hP hS => ?_)
    refine k_if_eq (tgt := 22) hx hb dX3_next_17 (by decide) (gNz_nB _) (fun c9 => absurd c9 (by decide)) (fun _ => ?_)
    refine k_iconst hx hb dX3_next_20 ?_
    have eQ : qNext σ = 1 := by unfold qNext; (repeat' split) <;> first | rfl | omega
    have eF : up σ 0 0 1 = tOf (qNext σ) σ (gNext σ) := by (rw [tOf_n eQ (by decide)]); try (rfl)
    rw [eF] at hP
    have eR : 0 = rOf (qNext σ) (σ 0 2 + 1) := by (rw [rOf_n eQ (by decide)]); try (rfl)
    exact W.iret hx hb hr (fun t ht hW => ⟨⟨_, _, rfl, ⟨congrArg iI eR, rfl⟩, by rw [ht]; exact hP, va_K.moved hW.alike hK⟩, hS.F ht⟩) hS.2.2 dX3_next_21
set_option maxHeartbeats 4000000 in
set_option maxRecDepth 100000 in
theorem m_close (l : Launch) (G : va_G) (ad : Nat → Nat) (cy : Nat → ClassId) (hI : mI ad) (σ : Sg)  (hB : mBd σ) (h1 : ∀ k : Nat, k < 8 → sOk (itr gS1 (up σ 0 0 0) k) k) (h2 : ∀ k : Nat, k ≤ 8 → mOk (itr gS2 (gClose0 σ) k)) (h3 : ∀ k : Nat, k < 8 → ∀ j : Nat, j ≤ 8 → mOk (itr (gPay (k : Int)) (itr gS2 (gClose0 σ) k) j)) : mMi l yX3_close wsX3_close ({ frames := 2, cells := 0, slots := 0, locals := 47 } : Room) G ad cy [.ref (ad 0)] σ (rOf (qClose σ) (σ 0 1 + 1)) (tOf (qClose σ) σ (gClose σ)) := by
  intro sz
  refine Met.ofW (cc := cX3_close) (maxL := 3) (ret := (some .int)) (by decide) rfl ?_
  intro p e s m args below meth cd s₁ B hml hv
  obtain ⟨rfl, hsz, hP, hK⟩ := hv
  have hx := B.exec
  have hb := B.bytes
  have hr := B.returns
  have hts := atoms_spec (ws := wsX3_close) B.pre
  have hown : s.vm.findClass RX3 = some m.cls := findClass_of_methodNamed B.named
  have hlocks := B.notSynchronized
  subst hsz
  have hS : va_S (mA ad s.heap.size) s.heap s.heap [] := va_S.rf
  have hA : ∀ q, s.heap.size ≤ q → mA ad s.heap.size q := fun _ h => Or.inr h
  have hAc : ∀ j, j < 21 → mA ad s.heap.size (ad j) := fun j h => Or.inl ⟨j, h, rfl⟩
  have hl := lv_entry ([.ref (ad 0)]) (n := 3) (Nat.le_of_ble_eq_true rfl)
  rw [lg_entry_eq]
  generalize (lg_sl ([.ref (ad 0)]) ++ List.replicate (3 - (lg_sl ([.ref (ad 0)])).length) Slot.unset).toArray = ls at hl ⊢
  have hl : lv_has ls 3 [(0, .ref (ad 0))] := hl
  have hF3 : ∀ w ∈ wsX30, w ∈ wsX3_close := by decide +kernel
  have lf78 := hts (.fieldLink RX3 78 "HarvestLenderModel" "farmers" "I") (by decide +kernel)
  have lf128 := hts (.fieldLink RX3 128 "HarvestLenderModel" "season" "I") (by decide +kernel)
  have lf101 := hts (.fieldLink RX3 101 "HarvestLenderModel" "stage" "I") (by decide +kernel)
  have lf46 := hts (.fieldLink RX3 46 "HarvestLenderModel" "crops" "[I") (by decide +kernel)
  have lf25 := hts (.fieldLink RX3 25 "HarvestLenderModel" "debts" "[I") (by decide +kernel)
  have lf58 := hts (.fieldLink RX3 58 "HarvestLenderModel" "yields" "[I") (by decide +kernel)
  have lf40 := hts (.fieldLink RX3 40 "HarvestLenderModel" "rows" "[I") (by decide +kernel)
  have lf61 := hts (.fieldLink RX3 61 "HarvestLenderModel" "calls" "[I") (by decide +kernel)
  have hcnt := hB.1.1
  have hstg := hB.1.2.2
  have hsea := hB.1.2.1
  have loop3 : ∀ (d k : Nat), k ≤ (σ 0 6).toNat → (σ 0 6).toNat < k + d → (σ 0 2 = 4 ∧ ¬ σ 0 1 = 20) → ∀ (H : Heap) (locs : List Loc) (ls : Array Slot), va_P G vwCl (mW ad cy (itr gS3 (gClose1 σ) k)) H → va_S (mA ad s.heap.size) s.heap H locs → lv_has ls 3 [(0, .ref (ad 0)), (1, .int (iI (k : Int)))] → W p l e (headSpec wsX3_close ({ frames := 2, cells := 0, slots := 0, locals := 47 } : Room)).room s m ([.ref (ad 0)] : List Value).toArray below meth cd H locs 0 0 (MQ below (va_Qi (fun (v9 : Int32) (u9 : Sg) => v9 = iI (rOf (qClose σ) (σ 0 1 + 1)) ∧ u9 = tOf (qClose σ) σ (gClose σ)) (mB G ad cy) (mA ad s.heap.size)) ([.ref (ad 0)] : List Value).toArray s 0 0 (mA ad s.heap.size)) (F0 m 148 ls []) := by
    intro d
    induction d with
    | zero => intro k h1 h2; exact absurd h2 (by omega)
    | succ d ih =>
      intro k hk hd hq0 H locs ls hP hS hl
      refine lv_iload_n hx hb dX3_close_148 rfl (lv_at hl 1 rfl) ?_
      refine lv_aload_n hx hb dX3_close_149 rfl (lv_at hl 0 rfl) ?_
      refine k_mg (v := .int (iI (σ 0 6))) hx hb hts hown hF3 hK hP 6 (by decide) lf78 dX3_close_150 rfl (congrArg (fun z => some (Value.int (iI z))) (by simp [gClose1_0, itrS3_0] : (itr gS3 (gClose1 σ) k) 0 6 = σ 0 6)) ?_
      refine k_icmp_ge (tgt := 167) hx hb dX3_close_153 (by decide) (by omega) (by omega) (fun c_1 => ?_) (fun c_1 => ?_)
      · have hP : va_P G vwCl (mW ad cy (gClose2 σ)) H := by (have e : k = (σ 0 6).toNat := by omega); (rw [e] at hP); exact hP
        refine lv_aload_n hx hb dX3_close_167 rfl (lv_at hl 0 rfl) ?_
        refine lv_dup hx hb dX3_close_168 rfl ?_
        refine k_mg (v := .int (iI (σ 0 1))) hx hb hts hown hF3 hK hP 1 (by decide) lf128 dX3_close_169 rfl (congrArg (fun z => some (Value.int (iI z))) (by simp [gClose2_0] : (gClose2 σ) 0 1 = σ 0 1)) ?_
        refine k_iconst hx hb dX3_close_172 ?_
        refine k_iadd hx hb dX3_close_173 ?_
        refine k_mp (v := (σ 0 1) + 1) hx hb hts hown hF3 hI hAc hK hP hS 1 (by decide) (by decide) lf128 dX3_close_174 rfl rfl (by decide +kernel) (fun H locs hP hS => ?_)
        refine lv_aload_n hx hb dX3_close_177 rfl (lv_at hl 0 rfl) ?_
        refine k_iconst hx hb dX3_close_178 ?_
        refine k_mp (v := 0) hx hb hts hown hF3 hI hAc hK hP hS 2 (by decide) (by decide) lf101 dX3_close_179 rfl rfl (by decide +kernel) (fun H locs hP hS => ?_)
        refine lv_aload_n hx hb dX3_close_182 rfl (lv_at hl 0 rfl) ?_
        refine k_mg (v := .int (iI ((σ 0 1) + 1))) hx hb hts hown hF3 hK hP 1 (by decide) lf128 dX3_close_183 rfl (congrArg (fun z => some (Value.int (iI z))) (by simp [up] : (up (up (gClose2 σ) 0 1 ((σ 0 1) + 1)) 0 2 0) 0 1 = (σ 0 1) + 1)) ?_
        have eQ : qClose σ = 0 := by unfold qClose; (repeat' split) <;> first | rfl | omega
        have eF : up (up (gClose2 σ) 0 1 ((σ 0 1) + 1)) 0 2 0 = tOf (qClose σ) σ (gClose σ) := by (rw [tOf_0 eQ]); try (rfl)
        rw [eF] at hP
        have eR : (σ 0 1) + 1 = rOf (qClose σ) (σ 0 1 + 1) := by (rw [rOf_0 eQ]); try (rfl)
        exact W.iret hx hb hr (fun t ht hW => ⟨⟨_, _, rfl, ⟨congrArg iI eR, rfl⟩, by rw [ht]; exact hP, va_K.moved hW.alike hK⟩, hS.F ht⟩) hS.2.2 dX3_close_186
      · have hk8 : k < 8 := by omega
        refine lv_aload_n hx hb dX3_close_156 rfl (lv_at hl 0 rfl) ?_
        refine lv_iload_n hx hb dX3_close_157 rfl (lv_at hl 1 rfl) ?_
        refine k_mcv (As := [.int (iI (k : Int))]) (rest := []) ⟨hx, hb, hml, hown, hts⟩ (m_clear l G ad cy hI (itr gS3 (gClose1 σ) k) (k : Int) (by (try simp only [Int.toNat_natCast]); omega) (by (try simp only [Int.toNat_natCast]); omega)) (cwV 1 hts gX3_close_X3_clear rfl rfl rfl (by decide +kernel) ⟨Nat.le_of_ble_eq_true rfl, Nat.le_of_ble_eq_true rfl⟩) (mRecv hK hP) hAc hA hK hP hS rfl hl.1 rfl (Nat.le_of_ble_eq_true rfl) dX3_close_158 ⟨Nat.zero_le _, Nat.zero_le _⟩ (fun H locs hP hS => ?_)
        refine lv_iinc (v := iI ((k : Int) + 1)) (lv' := [(1, .int (iI ((k : Int) + 1))), (0, .ref (ad 0))]) hx hb dX3_close_161 hl (k := 1) rfl (iI_add _ _) (by decide) rfl (fun ls hl => ?_)
        refine lv_goto (tgt := 148) hx hb dX3_close_164 (by decide) ?_
        have q2 : gClear (itr gS3 (gClose1 σ) k) (k : Int) = itr gS3 (gClose1 σ) (k + 1) := by rfl
        rw [q2] at hP
        exact ih (k + 1) (by omega) (by omega) (by omega) _ _ _ hP hS (lv_sub hl [1, 0] rfl)
  have loop2 : ∀ (d k : Nat), k ≤ (σ 0 6).toNat → (σ 0 6).toNat < k + d → (σ 0 2 = 4 ∧ ¬ σ 0 1 = 20) → ∀ (H : Heap) (locs : List Loc) (ls : Array Slot), va_P G vwCl (mW ad cy (itr gS2 (gClose0 σ) k)) H → va_S (mA ad s.heap.size) s.heap H locs → lv_has ls 3 [(0, .ref (ad 0)), (1, .int (iI (k : Int)))] → W p l e (headSpec wsX3_close ({ frames := 2, cells := 0, slots := 0, locals := 47 } : Room)).room s m ([.ref (ad 0)] : List Value).toArray below meth cd H locs 0 0 (MQ below (va_Qi (fun (v9 : Int32) (u9 : Sg) => v9 = iI (rOf (qClose σ) (σ 0 1 + 1)) ∧ u9 = tOf (qClose σ) σ (gClose σ)) (mB G ad cy) (mA ad s.heap.size)) ([.ref (ad 0)] : List Value).toArray s 0 0 (mA ad s.heap.size)) (F0 m 61 ls []) := by
    intro d
    induction d with
    | zero => intro k h1 h2; exact absurd h2 (by omega)
    | succ d ih =>
      intro k hk hd hq0 H locs ls hP hS hl
      refine lv_iload_n hx hb dX3_close_61 rfl (lv_at hl 1 rfl) ?_
      refine lv_aload_n hx hb dX3_close_62 rfl (lv_at hl 0 rfl) ?_
      refine k_mg (v := .int (iI (σ 0 6))) hx hb hts hown hF3 hK hP 6 (by decide) lf78 dX3_close_63 rfl (congrArg (fun z => some (Value.int (iI z))) (by simp [gClose0_0, itrS2_0] : (itr gS2 (gClose0 σ) k) 0 6 = σ 0 6)) ?_
      refine k_icmp_ge (tgt := 146) hx hb dX3_close_66 (by decide) (by omega) (by omega) (fun c_3 => ?_) (fun c_3 => ?_)
      · have hP : va_P G vwCl (mW ad cy (gClose1 σ)) H := by (have e : k = (σ 0 6).toNat := by omega); (rw [e] at hP); exact hP
        refine k_iconst hx hb dX3_close_146 ?_
        refine lv_istore_n (lv' := [(1, .int (iI 0)), (0, .ref (ad 0))]) hx hb dX3_close_147 rfl hl (by decide) rfl (fun ls hl => ?_)
        have q4 : gClose1 σ = itr gS3 (gClose1 σ) 0 := by rfl
        rw [q4] at hP
        exact loop3 ((σ 0 6).toNat + 1) 0 (Nat.zero_le _) (by omega) (by omega) _ _ _ hP hS (lv_sub hl [1, 0] rfl)
      · have hk8 : k < 8 := by omega
        obtain ⟨s5, s6, s18, s4, s13, s17, s11⟩ := h2 k (by omega) k hk8
        refine lv_aload_n hx hb dX3_close_69 rfl (lv_at hl 0 rfl) ?_
        refine k_mg (v := .ref (ad 13)) hx hb hts hown hF3 hK hP 16 (by decide) lf46 dX3_close_70 rfl rfl ?_
        refine lv_iload_n hx hb dX3_close_73 rfl (lv_at hl 1 rfl) ?_
        refine k_mld (q := 13) (N := 8) (x := (k : Int)) hx hb hK hP (by decide) rfl (by omega) (by omega) (by decide) dX3_close_74 ?_
        rw [show (itr gS2 (gClose0 σ) k) 13 ((k : Int)).toNat = (itr gS2 (gClose0 σ) k) 13 k by rfl]
        refine k_iconst hx hb dX3_close_75 ?_
        refine k_icmp_eq (tgt := 103) hx hb dX3_close_76 (by decide) (by omega) (by decide) (fun c_5 => ?_) (fun c_5 => ?_)
        · refine k_iconst hx hb dX3_close_103 ?_
          refine lv_istore_n (lv' := [(2, .int (iI 0)), (0, .ref (ad 0)), (1, .int (iI (k : Int)))]) hx hb dX3_close_104 rfl hl (by decide) rfl (fun ls hl => ?_)
          refine lv_aload_n hx hb dX3_close_105 rfl (lv_at hl 1 rfl) ?_
          refine k_mg (v := .ref (ad 6)) hx hb hts hown hF3 hK hP 9 (by decide) lf25 dX3_close_106 rfl rfl ?_
          refine lv_iload_n hx hb dX3_close_109 rfl (lv_at hl 2 rfl) ?_
          refine k_mld (q := 6) (N := 8) (x := (k : Int)) hx hb hK hP (by decide) rfl (by omega) (by omega) (by decide) dX3_close_110 ?_
          rw [show (itr gS2 (gClose0 σ) k) 6 ((k : Int)).toNat = (itr gS2 (gClose0 σ) k) 6 k by rfl]
          refine k_if_le (tgt := 126) hx hb dX3_close_111 (by decide) (by omega) (fun c_6 => ?_) (fun c_6 => ?_)
          · refine lv_aload_n hx hb dX3_close_126 rfl (lv_at hl 1 rfl) ?_
            refine k_mg (v := .ref (ad 6)) hx hb hts hown hF3 hK hP 9 (by decide) lf25 dX3_close_127 rfl rfl ?_
            refine lv_iload_n hx hb dX3_close_130 rfl (lv_at hl 2 rfl) ?_
            refine k_mld (q := 6) (N := 8) (x := (k : Int)) hx hb hK hP (by decide) rfl (by omega) (by omega) (by decide) dX3_close_131 ?_
            rw [show (itr gS2 (gClose0 σ) k) 6 ((k : Int)).toNat = (itr gS2 (gClose0 σ) k) 6 k by rfl]
            refine k_if_le (tgt := 140) hx hb dX3_close_132 (by decide) (by omega) (fun c_7 => ?_) (fun c_7 => ?_)
            · refine lv_iinc (v := iI ((k : Int) + 1)) (lv' := [(1, .int (iI ((k : Int) + 1))), (2, .int (iI 0)), (0, .ref (ad 0))]) hx hb dX3_close_140 hl (k := 2) rfl (iI_add _ _) (by decide) rfl (fun ls hl => ?_)
              refine lv_goto (tgt := 61) hx hb dX3_close_143 (by decide) ?_
              have q8 : itr gS2 (gClose0 σ) k = itr gS2 (gClose0 σ) (k + 1) := by first | rfl | ((rw [itr, gS2]; repeat' split) <;> first | rfl | (exfalso; omega))
              rw [q8] at hP
              exact ih (k + 1) (by omega) (by omega) (by omega) _ _ _ hP hS (lv_sub hl [2, 0] rfl)
            · refine lv_aload_n hx hb dX3_close_135 rfl (lv_at hl 1 rfl) ?_
              refine lv_iload_n hx hb dX3_close_136 rfl (lv_at hl 2 rfl) ?_
              refine k_mcv (As := [.int (iI (k : Int))]) (rest := []) ⟨hx, hb, hml, hown, hts⟩ (m_call l G ad cy hI (itr gS2 (gClose0 σ) k) (k : Int) (by (try simp only [Int.toNat_natCast]); omega) (by (try simp only [Int.toNat_natCast]); omega) (by rw [itrS2_0, gClose0_0 (by decide)]; exact hcnt) (h3 k hk8)) (cwV 1 hts gX3_close_X3_call rfl rfl rfl (by decide +kernel) ⟨Nat.le_of_ble_eq_true rfl, Nat.le_of_ble_eq_true rfl⟩) (mRecv hK hP) hAc hA hK hP hS rfl hl.1 rfl (Nat.le_of_ble_eq_true rfl) dX3_close_137 ⟨Nat.zero_le _, Nat.zero_le _⟩ (fun H locs hP hS => ?_)
              refine lv_iinc (v := iI ((k : Int) + 1)) (lv' := [(1, .int (iI ((k : Int) + 1))), (2, .int (iI 0)), (0, .ref (ad 0))]) hx hb dX3_close_140 hl (k := 2) rfl (iI_add _ _) (by decide) rfl (fun ls hl => ?_)
              refine lv_goto (tgt := 61) hx hb dX3_close_143 (by decide) ?_
              have q9 : gCall (itr gS2 (gClose0 σ) k) (k : Int) = itr gS2 (gClose0 σ) (k + 1) := by first | rfl | ((rw [itr, gS2]; repeat' split) <;> first | rfl | (exfalso; omega))
              rw [q9] at hP
              exact ih (k + 1) (by omega) (by omega) (by omega) _ _ _ hP hS (lv_sub hl [2, 0] rfl)
          · refine lv_iload_n hx hb dX3_close_114 rfl (lv_at hl 0 rfl) ?_
            refine k_if_eq (tgt := 126) hx hb dX3_close_115 (by decide) (by decide) (fun _ => ?_) (fun c9 => absurd c9 (by decide))
            refine lv_aload_n hx hb dX3_close_126 rfl (lv_at hl 1 rfl) ?_
            refine k_mg (v := .ref (ad 6)) hx hb hts hown hF3 hK hP 9 (by decide) lf25 dX3_close_127 rfl rfl ?_
            refine lv_iload_n hx hb dX3_close_130 rfl (lv_at hl 2 rfl) ?_
            refine k_mld (q := 6) (N := 8) (x := (k : Int)) hx hb hK hP (by decide) rfl (by omega) (by omega) (by decide) dX3_close_131 ?_
            rw [show (itr gS2 (gClose0 σ) k) 6 ((k : Int)).toNat = (itr gS2 (gClose0 σ) k) 6 k by rfl]
            refine k_if_le (tgt := 140) hx hb dX3_close_132 (by decide) (by omega) (fun c_10 => ?_) (fun c_10 => ?_)
            · refine lv_iinc (v := iI ((k : Int) + 1)) (lv' := [(1, .int (iI ((k : Int) + 1))), (2, .int (iI 0)), (0, .ref (ad 0))]) hx hb dX3_close_140 hl (k := 2) rfl (iI_add _ _) (by decide) rfl (fun ls hl => ?_)
              refine lv_goto (tgt := 61) hx hb dX3_close_143 (by decide) ?_
              have q11 : itr gS2 (gClose0 σ) k = itr gS2 (gClose0 σ) (k + 1) := by first | rfl | ((rw [itr, gS2]; repeat' split) <;> first | rfl | (exfalso; omega))
              rw [q11] at hP
              exact ih (k + 1) (by omega) (by omega) (by omega) _ _ _ hP hS (lv_sub hl [2, 0] rfl)
            · refine lv_aload_n hx hb dX3_close_135 rfl (lv_at hl 1 rfl) ?_
              refine lv_iload_n hx hb dX3_close_136 rfl (lv_at hl 2 rfl) ?_
              refine k_mcv (As := [.int (iI (k : Int))]) (rest := []) ⟨hx, hb, hml, hown, hts⟩ (m_call l G ad cy hI (itr gS2 (gClose0 σ) k) (k : Int) (by (try simp only [Int.toNat_natCast]); omega) (by (try simp only [Int.toNat_natCast]); omega) (by rw [itrS2_0, gClose0_0 (by decide)]; exact hcnt) (h3 k hk8)) (cwV 1 hts gX3_close_X3_call rfl rfl rfl (by decide +kernel) ⟨Nat.le_of_ble_eq_true rfl, Nat.le_of_ble_eq_true rfl⟩) (mRecv hK hP) hAc hA hK hP hS rfl hl.1 rfl (Nat.le_of_ble_eq_true rfl) dX3_close_137 ⟨Nat.zero_le _, Nat.zero_le _⟩ (fun H locs hP hS => ?_)
              refine lv_iinc (v := iI ((k : Int) + 1)) (lv' := [(1, .int (iI ((k : Int) + 1))), (2, .int (iI 0)), (0, .ref (ad 0))]) hx hb dX3_close_140 hl (k := 2) rfl (iI_add _ _) (by decide) rfl (fun ls hl => ?_)
              refine lv_goto (tgt := 61) hx hb dX3_close_143 (by decide) ?_
              have q12 : gCall (itr gS2 (gClose0 σ) k) (k : Int) = itr gS2 (gClose0 σ) (k + 1) := by first | rfl | ((rw [itr, gS2]; repeat' split) <;> first | rfl | (exfalso; omega))
              rw [q12] at hP
              exact ih (k + 1) (by omega) (by omega) (by omega) _ _ _ hP hS (lv_sub hl [2, 0] rfl)
        · refine lv_aload_n hx hb dX3_close_79 rfl (lv_at hl 0 rfl) ?_
          refine k_mg (v := .ref (ad 17)) hx hb hts hown hF3 hK hP 20 (by decide) lf58 dX3_close_80 rfl rfl ?_
          refine lv_iload_n hx hb dX3_close_83 rfl (lv_at hl 1 rfl) ?_
          refine k_mld (q := 17) (N := 8) (x := (k : Int)) hx hb hK hP (by decide) rfl (by omega) (by omega) (by decide) dX3_close_84 ?_
          rw [show (itr gS2 (gClose0 σ) k) 17 ((k : Int)).toNat = (itr gS2 (gClose0 σ) k) 17 k by rfl]
          refine k_bipush hx hb dX3_close_85 (by decide) ?_
          refine k_icmp_ge (tgt := 103) hx hb dX3_close_87 (by decide) (by omega) (by decide) (fun c_13 => ?_) (fun c_13 => ?_)
          · refine k_iconst hx hb dX3_close_103 ?_
            refine lv_istore_n (lv' := [(2, .int (iI 0)), (0, .ref (ad 0)), (1, .int (iI (k : Int)))]) hx hb dX3_close_104 rfl hl (by decide) rfl (fun ls hl => ?_)
            refine lv_aload_n hx hb dX3_close_105 rfl (lv_at hl 1 rfl) ?_
            refine k_mg (v := .ref (ad 6)) hx hb hts hown hF3 hK hP 9 (by decide) lf25 dX3_close_106 rfl rfl ?_
            refine lv_iload_n hx hb dX3_close_109 rfl (lv_at hl 2 rfl) ?_
            refine k_mld (q := 6) (N := 8) (x := (k : Int)) hx hb hK hP (by decide) rfl (by omega) (by omega) (by decide) dX3_close_110 ?_
            rw [show (itr gS2 (gClose0 σ) k) 6 ((k : Int)).toNat = (itr gS2 (gClose0 σ) k) 6 k by rfl]
            refine k_if_le (tgt := 126) hx hb dX3_close_111 (by decide) (by omega) (fun c_14 => ?_) (fun c_14 => ?_)
            · refine lv_aload_n hx hb dX3_close_126 rfl (lv_at hl 1 rfl) ?_
              refine k_mg (v := .ref (ad 6)) hx hb hts hown hF3 hK hP 9 (by decide) lf25 dX3_close_127 rfl rfl ?_
              refine lv_iload_n hx hb dX3_close_130 rfl (lv_at hl 2 rfl) ?_
              refine k_mld (q := 6) (N := 8) (x := (k : Int)) hx hb hK hP (by decide) rfl (by omega) (by omega) (by decide) dX3_close_131 ?_
              rw [show (itr gS2 (gClose0 σ) k) 6 ((k : Int)).toNat = (itr gS2 (gClose0 σ) k) 6 k by rfl]
              refine k_if_le (tgt := 140) hx hb dX3_close_132 (by decide) (by omega) (fun c_15 => ?_) (fun c_15 => ?_)
              · refine lv_iinc (v := iI ((k : Int) + 1)) (lv' := [(1, .int (iI ((k : Int) + 1))), (2, .int (iI 0)), (0, .ref (ad 0))]) hx hb dX3_close_140 hl (k := 2) rfl (iI_add _ _) (by decide) rfl (fun ls hl => ?_)
                refine lv_goto (tgt := 61) hx hb dX3_close_143 (by decide) ?_
                have q16 : itr gS2 (gClose0 σ) k = itr gS2 (gClose0 σ) (k + 1) := by first | rfl | ((rw [itr, gS2]; repeat' split) <;> first | rfl | (exfalso; omega))
                rw [q16] at hP
                exact ih (k + 1) (by omega) (by omega) (by omega) _ _ _ hP hS (lv_sub hl [2, 0] rfl)
              · refine lv_aload_n hx hb dX3_close_135 rfl (lv_at hl 1 rfl) ?_
                refine lv_iload_n hx hb dX3_close_136 rfl (lv_at hl 2 rfl) ?_
                refine k_mcv (As := [.int (iI (k : Int))]) (rest := []) ⟨hx, hb, hml, hown, hts⟩ (m_call l G ad cy hI (itr gS2 (gClose0 σ) k) (k : Int) (by (try simp only [Int.toNat_natCast]); omega) (by (try simp only [Int.toNat_natCast]); omega) (by rw [itrS2_0, gClose0_0 (by decide)]; exact hcnt) (h3 k hk8)) (cwV 1 hts gX3_close_X3_call rfl rfl rfl (by decide +kernel) ⟨Nat.le_of_ble_eq_true rfl, Nat.le_of_ble_eq_true rfl⟩) (mRecv hK hP) hAc hA hK hP hS rfl hl.1 rfl (Nat.le_of_ble_eq_true rfl) dX3_close_137 ⟨Nat.zero_le _, Nat.zero_le _⟩ (fun H locs hP hS => ?_)
                refine lv_iinc (v := iI ((k : Int) + 1)) (lv' := [(1, .int (iI ((k : Int) + 1))), (2, .int (iI 0)), (0, .ref (ad 0))]) hx hb dX3_close_140 hl (k := 2) rfl (iI_add _ _) (by decide) rfl (fun ls hl => ?_)
                refine lv_goto (tgt := 61) hx hb dX3_close_143 (by decide) ?_
                have q17 : gCall (itr gS2 (gClose0 σ) k) (k : Int) = itr gS2 (gClose0 σ) (k + 1) := by first | rfl | ((rw [itr, gS2]; repeat' split) <;> first | rfl | (exfalso; omega))
                rw [q17] at hP
                exact ih (k + 1) (by omega) (by omega) (by omega) _ _ _ hP hS (lv_sub hl [2, 0] rfl)
            · refine lv_iload_n hx hb dX3_close_114 rfl (lv_at hl 0 rfl) ?_
              refine k_if_eq (tgt := 126) hx hb dX3_close_115 (by decide) (by decide) (fun _ => ?_) (fun c9 => absurd c9 (by decide))
              refine lv_aload_n hx hb dX3_close_126 rfl (lv_at hl 1 rfl) ?_
              refine k_mg (v := .ref (ad 6)) hx hb hts hown hF3 hK hP 9 (by decide) lf25 dX3_close_127 rfl rfl ?_
              refine lv_iload_n hx hb dX3_close_130 rfl (lv_at hl 2 rfl) ?_
              refine k_mld (q := 6) (N := 8) (x := (k : Int)) hx hb hK hP (by decide) rfl (by omega) (by omega) (by decide) dX3_close_131 ?_
              rw [show (itr gS2 (gClose0 σ) k) 6 ((k : Int)).toNat = (itr gS2 (gClose0 σ) k) 6 k by rfl]
              refine k_if_le (tgt := 140) hx hb dX3_close_132 (by decide) (by omega) (fun c_18 => ?_) (fun c_18 => ?_)
              · refine lv_iinc (v := iI ((k : Int) + 1)) (lv' := [(1, .int (iI ((k : Int) + 1))), (2, .int (iI 0)), (0, .ref (ad 0))]) hx hb dX3_close_140 hl (k := 2) rfl (iI_add _ _) (by decide) rfl (fun ls hl => ?_)
                refine lv_goto (tgt := 61) hx hb dX3_close_143 (by decide) ?_
                have q19 : itr gS2 (gClose0 σ) k = itr gS2 (gClose0 σ) (k + 1) := by first | rfl | ((rw [itr, gS2]; repeat' split) <;> first | rfl | (exfalso; omega))
                rw [q19] at hP
                exact ih (k + 1) (by omega) (by omega) (by omega) _ _ _ hP hS (lv_sub hl [2, 0] rfl)
              · refine lv_aload_n hx hb dX3_close_135 rfl (lv_at hl 1 rfl) ?_
                refine lv_iload_n hx hb dX3_close_136 rfl (lv_at hl 2 rfl) ?_
                refine k_mcv (As := [.int (iI (k : Int))]) (rest := []) ⟨hx, hb, hml, hown, hts⟩ (m_call l G ad cy hI (itr gS2 (gClose0 σ) k) (k : Int) (by (try simp only [Int.toNat_natCast]); omega) (by (try simp only [Int.toNat_natCast]); omega) (by rw [itrS2_0, gClose0_0 (by decide)]; exact hcnt) (h3 k hk8)) (cwV 1 hts gX3_close_X3_call rfl rfl rfl (by decide +kernel) ⟨Nat.le_of_ble_eq_true rfl, Nat.le_of_ble_eq_true rfl⟩) (mRecv hK hP) hAc hA hK hP hS rfl hl.1 rfl (Nat.le_of_ble_eq_true rfl) dX3_close_137 ⟨Nat.zero_le _, Nat.zero_le _⟩ (fun H locs hP hS => ?_)
                refine lv_iinc (v := iI ((k : Int) + 1)) (lv' := [(1, .int (iI ((k : Int) + 1))), (2, .int (iI 0)), (0, .ref (ad 0))]) hx hb dX3_close_140 hl (k := 2) rfl (iI_add _ _) (by decide) rfl (fun ls hl => ?_)
                refine lv_goto (tgt := 61) hx hb dX3_close_143 (by decide) ?_
                have q20 : gCall (itr gS2 (gClose0 σ) k) (k : Int) = itr gS2 (gClose0 σ) (k + 1) := by first | rfl | ((rw [itr, gS2]; repeat' split) <;> first | rfl | (exfalso; omega))
                rw [q20] at hP
                exact ih (k + 1) (by omega) (by omega) (by omega) _ _ _ hP hS (lv_sub hl [2, 0] rfl)
          · refine lv_aload_n hx hb dX3_close_90 rfl (lv_at hl 0 rfl) ?_
            refine k_mg (v := .ref (ad 11)) hx hb hts hown hF3 hK hP 14 (by decide) lf40 dX3_close_91 rfl rfl ?_
            refine lv_iload_n hx hb dX3_close_94 rfl (lv_at hl 1 rfl) ?_
            refine k_mld (q := 11) (N := 8) (x := (k : Int)) hx hb hK hP (by decide) rfl (by omega) (by omega) (by decide) dX3_close_95 ?_
            rw [show (itr gS2 (gClose0 σ) k) 11 ((k : Int)).toNat = (itr gS2 (gClose0 σ) k) 11 k by rfl]
            refine k_if_ne (tgt := 103) hx hb dX3_close_96 (by decide) (by omega) (fun c_21 => ?_) (fun c_21 => ?_)
            · refine k_iconst hx hb dX3_close_103 ?_
              refine lv_istore_n (lv' := [(2, .int (iI 0)), (0, .ref (ad 0)), (1, .int (iI (k : Int)))]) hx hb dX3_close_104 rfl hl (by decide) rfl (fun ls hl => ?_)
              refine lv_aload_n hx hb dX3_close_105 rfl (lv_at hl 1 rfl) ?_
              refine k_mg (v := .ref (ad 6)) hx hb hts hown hF3 hK hP 9 (by decide) lf25 dX3_close_106 rfl rfl ?_
              refine lv_iload_n hx hb dX3_close_109 rfl (lv_at hl 2 rfl) ?_
              refine k_mld (q := 6) (N := 8) (x := (k : Int)) hx hb hK hP (by decide) rfl (by omega) (by omega) (by decide) dX3_close_110 ?_
              rw [show (itr gS2 (gClose0 σ) k) 6 ((k : Int)).toNat = (itr gS2 (gClose0 σ) k) 6 k by rfl]
              refine k_if_le (tgt := 126) hx hb dX3_close_111 (by decide) (by omega) (fun c_22 => ?_) (fun c_22 => ?_)
              · refine lv_aload_n hx hb dX3_close_126 rfl (lv_at hl 1 rfl) ?_
                refine k_mg (v := .ref (ad 6)) hx hb hts hown hF3 hK hP 9 (by decide) lf25 dX3_close_127 rfl rfl ?_
                refine lv_iload_n hx hb dX3_close_130 rfl (lv_at hl 2 rfl) ?_
                refine k_mld (q := 6) (N := 8) (x := (k : Int)) hx hb hK hP (by decide) rfl (by omega) (by omega) (by decide) dX3_close_131 ?_
                rw [show (itr gS2 (gClose0 σ) k) 6 ((k : Int)).toNat = (itr gS2 (gClose0 σ) k) 6 k by rfl]
                refine k_if_le (tgt := 140) hx hb dX3_close_132 (by decide) (by omega) (fun c_23 => ?_) (fun c_23 => ?_)
                · refine lv_iinc (v := iI ((k : Int) + 1)) (lv' := [(1, .int (iI ((k : Int) + 1))), (2, .int (iI 0)), (0, .ref (ad 0))]) hx hb dX3_close_140 hl (k := 2) rfl (iI_add _ _) (by decide) rfl (fun ls hl => ?_)
                  refine lv_goto (tgt := 61) hx hb dX3_close_143 (by decide) ?_
                  have q24 : itr gS2 (gClose0 σ) k = itr gS2 (gClose0 σ) (k + 1) := by first | rfl | ((rw [itr, gS2]; repeat' split) <;> first | rfl | (exfalso; omega))
                  rw [q24] at hP
                  exact ih (k + 1) (by omega) (by omega) (by omega) _ _ _ hP hS (lv_sub hl [2, 0] rfl)
                · refine lv_aload_n hx hb dX3_close_135 rfl (lv_at hl 1 rfl) ?_
                  refine lv_iload_n hx hb dX3_close_136 rfl (lv_at hl 2 rfl) ?_
                  refine k_mcv (As := [.int (iI (k : Int))]) (rest := []) ⟨hx, hb, hml, hown, hts⟩ (m_call l G ad cy hI (itr gS2 (gClose0 σ) k) (k : Int) (by (try simp only [Int.toNat_natCast]); omega) (by (try simp only [Int.toNat_natCast]); omega) (by rw [itrS2_0, gClose0_0 (by decide)]; exact hcnt) (h3 k hk8)) (cwV 1 hts gX3_close_X3_call rfl rfl rfl (by decide +kernel) ⟨Nat.le_of_ble_eq_true rfl, Nat.le_of_ble_eq_true rfl⟩) (mRecv hK hP) hAc hA hK hP hS rfl hl.1 rfl (Nat.le_of_ble_eq_true rfl) dX3_close_137 ⟨Nat.zero_le _, Nat.zero_le _⟩ (fun H locs hP hS => ?_)
                  refine lv_iinc (v := iI ((k : Int) + 1)) (lv' := [(1, .int (iI ((k : Int) + 1))), (2, .int (iI 0)), (0, .ref (ad 0))]) hx hb dX3_close_140 hl (k := 2) rfl (iI_add _ _) (by decide) rfl (fun ls hl => ?_)
                  refine lv_goto (tgt := 61) hx hb dX3_close_143 (by decide) ?_
                  have q25 : gCall (itr gS2 (gClose0 σ) k) (k : Int) = itr gS2 (gClose0 σ) (k + 1) := by first | rfl | ((rw [itr, gS2]; repeat' split) <;> first | rfl | (exfalso; omega))
                  rw [q25] at hP
                  exact ih (k + 1) (by omega) (by omega) (by omega) _ _ _ hP hS (lv_sub hl [2, 0] rfl)
              · refine lv_iload_n hx hb dX3_close_114 rfl (lv_at hl 0 rfl) ?_
                refine k_if_eq (tgt := 126) hx hb dX3_close_115 (by decide) (by decide) (fun _ => ?_) (fun c9 => absurd c9 (by decide))
                refine lv_aload_n hx hb dX3_close_126 rfl (lv_at hl 1 rfl) ?_
                refine k_mg (v := .ref (ad 6)) hx hb hts hown hF3 hK hP 9 (by decide) lf25 dX3_close_127 rfl rfl ?_
                refine lv_iload_n hx hb dX3_close_130 rfl (lv_at hl 2 rfl) ?_
                refine k_mld (q := 6) (N := 8) (x := (k : Int)) hx hb hK hP (by decide) rfl (by omega) (by omega) (by decide) dX3_close_131 ?_
                rw [show (itr gS2 (gClose0 σ) k) 6 ((k : Int)).toNat = (itr gS2 (gClose0 σ) k) 6 k by rfl]
                refine k_if_le (tgt := 140) hx hb dX3_close_132 (by decide) (by omega) (fun c_26 => ?_) (fun c_26 => ?_)
                · refine lv_iinc (v := iI ((k : Int) + 1)) (lv' := [(1, .int (iI ((k : Int) + 1))), (2, .int (iI 0)), (0, .ref (ad 0))]) hx hb dX3_close_140 hl (k := 2) rfl (iI_add _ _) (by decide) rfl (fun ls hl => ?_)
                  refine lv_goto (tgt := 61) hx hb dX3_close_143 (by decide) ?_
                  have q27 : itr gS2 (gClose0 σ) k = itr gS2 (gClose0 σ) (k + 1) := by first | rfl | ((rw [itr, gS2]; repeat' split) <;> first | rfl | (exfalso; omega))
                  rw [q27] at hP
                  exact ih (k + 1) (by omega) (by omega) (by omega) _ _ _ hP hS (lv_sub hl [2, 0] rfl)
                · refine lv_aload_n hx hb dX3_close_135 rfl (lv_at hl 1 rfl) ?_
                  refine lv_iload_n hx hb dX3_close_136 rfl (lv_at hl 2 rfl) ?_
                  refine k_mcv (As := [.int (iI (k : Int))]) (rest := []) ⟨hx, hb, hml, hown, hts⟩ (m_call l G ad cy hI (itr gS2 (gClose0 σ) k) (k : Int) (by (try simp only [Int.toNat_natCast]); omega) (by (try simp only [Int.toNat_natCast]); omega) (by rw [itrS2_0, gClose0_0 (by decide)]; exact hcnt) (h3 k hk8)) (cwV 1 hts gX3_close_X3_call rfl rfl rfl (by decide +kernel) ⟨Nat.le_of_ble_eq_true rfl, Nat.le_of_ble_eq_true rfl⟩) (mRecv hK hP) hAc hA hK hP hS rfl hl.1 rfl (Nat.le_of_ble_eq_true rfl) dX3_close_137 ⟨Nat.zero_le _, Nat.zero_le _⟩ (fun H locs hP hS => ?_)
                  refine lv_iinc (v := iI ((k : Int) + 1)) (lv' := [(1, .int (iI ((k : Int) + 1))), (2, .int (iI 0)), (0, .ref (ad 0))]) hx hb dX3_close_140 hl (k := 2) rfl (iI_add _ _) (by decide) rfl (fun ls hl => ?_)
                  refine lv_goto (tgt := 61) hx hb dX3_close_143 (by decide) ?_
                  have q28 : gCall (itr gS2 (gClose0 σ) k) (k : Int) = itr gS2 (gClose0 σ) (k + 1) := by first | rfl | ((rw [itr, gS2]; repeat' split) <;> first | rfl | (exfalso; omega))
                  rw [q28] at hP
                  exact ih (k + 1) (by omega) (by omega) (by omega) _ _ _ hP hS (lv_sub hl [2, 0] rfl)
            · refine k_iconst hx hb dX3_close_99 ?_
              refine lv_goto (tgt := 104) hx hb dX3_close_100 (by decide) ?_
              refine lv_istore_n (lv' := [(2, .int (iI 1)), (0, .ref (ad 0)), (1, .int (iI (k : Int)))]) hx hb dX3_close_104 rfl hl (by decide) rfl (fun ls hl => ?_)
              refine lv_aload_n hx hb dX3_close_105 rfl (lv_at hl 1 rfl) ?_
              refine k_mg (v := .ref (ad 6)) hx hb hts hown hF3 hK hP 9 (by decide) lf25 dX3_close_106 rfl rfl ?_
              refine lv_iload_n hx hb dX3_close_109 rfl (lv_at hl 2 rfl) ?_
              refine k_mld (q := 6) (N := 8) (x := (k : Int)) hx hb hK hP (by decide) rfl (by omega) (by omega) (by decide) dX3_close_110 ?_
              rw [show (itr gS2 (gClose0 σ) k) 6 ((k : Int)).toNat = (itr gS2 (gClose0 σ) k) 6 k by rfl]
              refine k_if_le (tgt := 126) hx hb dX3_close_111 (by decide) (by omega) (fun c_29 => ?_) (fun c_29 => ?_)
              · refine lv_aload_n hx hb dX3_close_126 rfl (lv_at hl 1 rfl) ?_
                refine k_mg (v := .ref (ad 6)) hx hb hts hown hF3 hK hP 9 (by decide) lf25 dX3_close_127 rfl rfl ?_
                refine lv_iload_n hx hb dX3_close_130 rfl (lv_at hl 2 rfl) ?_
                refine k_mld (q := 6) (N := 8) (x := (k : Int)) hx hb hK hP (by decide) rfl (by omega) (by omega) (by decide) dX3_close_131 ?_
                rw [show (itr gS2 (gClose0 σ) k) 6 ((k : Int)).toNat = (itr gS2 (gClose0 σ) k) 6 k by rfl]
                refine k_if_le (tgt := 140) hx hb dX3_close_132 (by decide) (by omega) (fun c_30 => ?_) (fun c_30 => ?_)
                · refine lv_iinc (v := iI ((k : Int) + 1)) (lv' := [(1, .int (iI ((k : Int) + 1))), (2, .int (iI 1)), (0, .ref (ad 0))]) hx hb dX3_close_140 hl (k := 2) rfl (iI_add _ _) (by decide) rfl (fun ls hl => ?_)
                  refine lv_goto (tgt := 61) hx hb dX3_close_143 (by decide) ?_
                  have q31 : itr gS2 (gClose0 σ) k = itr gS2 (gClose0 σ) (k + 1) := by first | rfl | ((rw [itr, gS2]; repeat' split) <;> first | rfl | (exfalso; omega))
                  rw [q31] at hP
                  exact ih (k + 1) (by omega) (by omega) (by omega) _ _ _ hP hS (lv_sub hl [2, 0] rfl)
                · refine lv_aload_n hx hb dX3_close_135 rfl (lv_at hl 1 rfl) ?_
                  refine lv_iload_n hx hb dX3_close_136 rfl (lv_at hl 2 rfl) ?_
                  refine k_mcv (As := [.int (iI (k : Int))]) (rest := []) ⟨hx, hb, hml, hown, hts⟩ (m_call l G ad cy hI (itr gS2 (gClose0 σ) k) (k : Int) (by (try simp only [Int.toNat_natCast]); omega) (by (try simp only [Int.toNat_natCast]); omega) (by rw [itrS2_0, gClose0_0 (by decide)]; exact hcnt) (h3 k hk8)) (cwV 1 hts gX3_close_X3_call rfl rfl rfl (by decide +kernel) ⟨Nat.le_of_ble_eq_true rfl, Nat.le_of_ble_eq_true rfl⟩) (mRecv hK hP) hAc hA hK hP hS rfl hl.1 rfl (Nat.le_of_ble_eq_true rfl) dX3_close_137 ⟨Nat.zero_le _, Nat.zero_le _⟩ (fun H locs hP hS => ?_)
                  refine lv_iinc (v := iI ((k : Int) + 1)) (lv' := [(1, .int (iI ((k : Int) + 1))), (2, .int (iI 1)), (0, .ref (ad 0))]) hx hb dX3_close_140 hl (k := 2) rfl (iI_add _ _) (by decide) rfl (fun ls hl => ?_)
                  refine lv_goto (tgt := 61) hx hb dX3_close_143 (by decide) ?_
                  have q32 : gCall (itr gS2 (gClose0 σ) k) (k : Int) = itr gS2 (gClose0 σ) (k + 1) := by first | rfl | ((rw [itr, gS2]; repeat' split) <;> first | rfl | (exfalso; omega))
                  rw [q32] at hP
                  exact ih (k + 1) (by omega) (by omega) (by omega) _ _ _ hP hS (lv_sub hl [2, 0] rfl)
              · refine lv_iload_n hx hb dX3_close_114 rfl (lv_at hl 0 rfl) ?_
                refine k_if_eq (tgt := 126) hx hb dX3_close_115 (by decide) (by decide) (fun c9 => absurd c9 (by decide)) (fun _ => ?_)
                refine lv_aload_n hx hb dX3_close_118 rfl (lv_at hl 1 rfl) ?_
                refine lv_iload_n hx hb dX3_close_119 rfl (lv_at hl 2 rfl) ?_
                refine k_mcv (As := [.int (iI (k : Int))]) (rest := []) ⟨hx, hb, hml, hown, hts⟩ (m_roll l G ad cy hI (itr gS2 (gClose0 σ) k) (k : Int) (by (try simp only [Int.toNat_natCast]); omega) (by (try simp only [Int.toNat_natCast]); omega) (by (try simp only [Int.toNat_natCast]); omega)) (cwV 1 hts gX3_close_X3_roll rfl rfl rfl (by decide +kernel) ⟨Nat.le_of_ble_eq_true rfl, Nat.le_of_ble_eq_true rfl⟩) (mRecv hK hP) hAc hA hK hP hS rfl hl.1 rfl (Nat.le_of_ble_eq_true rfl) dX3_close_120 ⟨Nat.zero_le _, Nat.zero_le _⟩ (fun H locs hP hS => ?_)
                refine lv_goto (tgt := 140) hx hb dX3_close_123 (by decide) ?_
                refine lv_iinc (v := iI ((k : Int) + 1)) (lv' := [(1, .int (iI ((k : Int) + 1))), (2, .int (iI 1)), (0, .ref (ad 0))]) hx hb dX3_close_140 hl (k := 2) rfl (iI_add _ _) (by decide) rfl (fun ls hl => ?_)
                refine lv_goto (tgt := 61) hx hb dX3_close_143 (by decide) ?_
                have q33 : gRoll (itr gS2 (gClose0 σ) k) (k : Int) = itr gS2 (gClose0 σ) (k + 1) := by first | rfl | ((rw [itr, gS2]; repeat' split) <;> first | rfl | (exfalso; omega))
                rw [q33] at hP
                exact ih (k + 1) (by omega) (by omega) (by omega) _ _ _ hP hS (lv_sub hl [2, 0] rfl)
  have loop1 : ∀ (d k : Nat), k ≤ (σ 0 6).toNat → (σ 0 6).toNat < k + d → (σ 0 2 = 4 ∧ ¬ σ 0 1 = 20) → ∀ (H : Heap) (locs : List Loc) (ls : Array Slot), va_P G vwCl (mW ad cy (itr gS1 (up σ 0 0 0) k)) H → va_S (mA ad s.heap.size) s.heap H locs → lv_has ls 3 [(0, .ref (ad 0)), (1, .int (iI (k : Int)))] → W p l e (headSpec wsX3_close ({ frames := 2, cells := 0, slots := 0, locals := 47 } : Room)).room s m ([.ref (ad 0)] : List Value).toArray below meth cd H locs 0 0 (MQ below (va_Qi (fun (v9 : Int32) (u9 : Sg) => v9 = iI (rOf (qClose σ) (σ 0 1 + 1)) ∧ u9 = tOf (qClose σ) σ (gClose σ)) (mB G ad cy) (mA ad s.heap.size)) ([.ref (ad 0)] : List Value).toArray s 0 0 (mA ad s.heap.size)) (F0 m 33 ls []) := by
    intro d
    induction d with
    | zero => intro k h1 h2; exact absurd h2 (by omega)
    | succ d ih =>
      intro k hk hd hq0 H locs ls hP hS hl
      refine lv_iload_n hx hb dX3_close_33 rfl (lv_at hl 1 rfl) ?_
      refine lv_aload_n hx hb dX3_close_34 rfl (lv_at hl 0 rfl) ?_
      refine k_mg (v := .int (iI (σ 0 6))) hx hb hts hown hF3 hK hP 6 (by decide) lf78 dX3_close_35 rfl (congrArg (fun z => some (Value.int (iI z))) (by simp [itrS1_0, up] : (itr gS1 (up σ 0 0 0) k) 0 6 = σ 0 6)) ?_
      refine k_icmp_ge (tgt := 59) hx hb dX3_close_38 (by decide) (by omega) (by omega) (fun c_34 => ?_) (fun c_34 => ?_)
      · have hP : va_P G vwCl (mW ad cy (gClose0 σ)) H := by (have e : k = (σ 0 6).toNat := by omega); (rw [e] at hP); exact hP
        refine k_iconst hx hb dX3_close_59 ?_
        refine lv_istore_n (lv' := [(1, .int (iI 0)), (0, .ref (ad 0))]) hx hb dX3_close_60 rfl hl (by decide) rfl (fun ls hl => ?_)
        have q35 : gClose0 σ = itr gS2 (gClose0 σ) 0 := by first | rfl | ((rw [itr, gS2]; repeat' split) <;> first | rfl | (exfalso; omega))
        rw [q35] at hP
        exact loop2 ((σ 0 6).toNat + 1) 0 (Nat.zero_le _) (by omega) (by omega) _ _ _ hP hS (lv_sub hl [1, 0] rfl)
      · have hk8 : k < 8 := by omega
        obtain ⟨s11, s5, s6, s12⟩ := h1 k hk8
        refine lv_aload_n hx hb dX3_close_41 rfl (lv_at hl 0 rfl) ?_
        refine lv_iload_n hx hb dX3_close_42 rfl (lv_at hl 1 rfl) ?_
        refine k_mcv (As := [.int (iI (k : Int))]) (rest := []) ⟨hx, hb, hml, hown, hts⟩ (m_settle l G ad cy hI (itr gS1 (up σ 0 0 0) k) (k : Int) (by (try simp only [Int.toNat_natCast]); omega) (by (try simp only [Int.toNat_natCast]); omega) (by (try simp only [Int.toNat_natCast]); omega) (by (try simp only [Int.toNat_natCast]); omega) (by (try simp only [Int.toNat_natCast]); omega) (by (try simp only [Int.toNat_natCast]); omega)) (cwV 1 hts gX3_close_X3_settle rfl rfl rfl (by decide +kernel) ⟨Nat.le_of_ble_eq_true rfl, Nat.le_of_ble_eq_true rfl⟩) (mRecv hK hP) hAc hA hK hP hS rfl hl.1 rfl (Nat.le_of_ble_eq_true rfl) dX3_close_43 ⟨Nat.zero_le _, Nat.zero_le _⟩ (fun H locs hP hS => ?_)
        refine lv_aload_n hx hb dX3_close_46 rfl (lv_at hl 0 rfl) ?_
        refine k_mg (v := .ref (ad 18)) hx hb hts hown hF3 hK hP 21 (by decide) lf61 dX3_close_47 rfl rfl ?_
        refine lv_iload_n hx hb dX3_close_50 rfl (lv_at hl 1 rfl) ?_
        refine k_iconst hx hb dX3_close_51 ?_
        refine k_mst (q := 18) (N := 8) (x := (k : Int)) (v := 0) hx hb hI hAc hK hP hS (by decide) rfl (by omega) (by omega) (by decide) dX3_close_52 (fun H locs hP hS => ?_)
        have hP : va_P G vwCl (mW ad cy (up (gSettle (itr gS1 (up σ 0 0 0) k) (k : Int)) 18 k 0)) H := hP
        refine lv_iinc (v := iI ((k : Int) + 1)) (lv' := [(1, .int (iI ((k : Int) + 1))), (0, .ref (ad 0))]) hx hb dX3_close_53 hl (k := 1) rfl (iI_add _ _) (by decide) rfl (fun ls hl => ?_)
        refine lv_goto (tgt := 33) hx hb dX3_close_56 (by decide) ?_
        have q36 : up (gSettle (itr gS1 (up σ 0 0 0) k) (k : Int)) 18 k 0 = itr gS1 (up σ 0 0 0) (k + 1) := by rfl
        rw [q36] at hP
        exact ih (k + 1) (by omega) (by omega) (by omega) _ _ _ hP hS (lv_sub hl [1, 0] rfl)
  refine lv_aload_n hx hb dX3_close_0 rfl (lv_at hl 0 rfl) ?_
  refine lv_aload_n hx hb dX3_close_1 rfl (lv_at hl 0 rfl) ?_
  refine k_mg (v := .int (iI (σ 0 2))) hx hb hts hown hF3 hK hP 2 (by decide) lf101 dX3_close_2 rfl rfl ?_
  refine k_iconst hx hb dX3_close_5 ?_
  refine k_icmp_ne (tgt := 18) hx hb dX3_close_6 (by decide) (by omega) (by decide) (fun c_37 => ?_) (fun c_37 => ?_)
  · refine k_iconst hx hb dX3_close_18 ?_
    refine lv_goto (tgt := 23) hx hb dX3_close_19 (by decide) ?_
    refine k_mci (As := [.int (iI 1)]) (rest := []) ⟨hx, hb, hml, hown, hts⟩ (m_refused l G ad cy hI σ 1 (by decide)) (cwV 1 hts gX3_close_X3_refused rfl rfl rfl (by decide +kernel) ⟨Nat.le_of_ble_eq_true rfl, Nat.le_of_ble_eq_true rfl⟩) (mRecv hK hP) hAc hA hK hP hS rfl hl.1 rfl (Nat.le_of_ble_eq_true rfl) dX3_close_23 ⟨Nat.zero_le _, Nat.zero_le _⟩ (fun H locs hP hS => ?_)
    refine k_if_eq (tgt := 31) hx hb dX3_close_26 (by decide) (gNz_nB _) (fun c9 => absurd c9 (by decide)) (fun _ => ?_)
    refine k_iconst hx hb dX3_close_29 ?_
    have eQ : qClose σ = 1 := by unfold qClose; (repeat' split) <;> first | rfl | omega
    have eF : up σ 0 0 1 = tOf (qClose σ) σ (gClose σ) := by (rw [tOf_n eQ (by decide)]); try (rfl)
    rw [eF] at hP
    have eR : 0 = rOf (qClose σ) (σ 0 1 + 1) := by (rw [rOf_n eQ (by decide)]); try (rfl)
    exact W.iret hx hb hr (fun t ht hW => ⟨⟨_, _, rfl, ⟨congrArg iI eR, rfl⟩, by rw [ht]; exact hP, va_K.moved hW.alike hK⟩, hS.F ht⟩) hS.2.2 dX3_close_30
  · refine lv_aload_n hx hb dX3_close_9 rfl (lv_at hl 0 rfl) ?_
    refine k_mg (v := .int (iI (σ 0 1))) hx hb hts hown hF3 hK hP 1 (by decide) lf128 dX3_close_10 rfl rfl ?_
    refine k_bipush hx hb dX3_close_13 (by decide) ?_
    refine k_icmp_ne (tgt := 22) hx hb dX3_close_15 (by decide) (by omega) (by decide) (fun c_39 => ?_) (fun c_39 => ?_)
    · refine k_iconst hx hb dX3_close_22 ?_
      refine k_mci (As := [.int (iI 0)]) (rest := []) ⟨hx, hb, hml, hown, hts⟩ (m_refused l G ad cy hI σ 0 (by decide)) (cwV 1 hts gX3_close_X3_refused rfl rfl rfl (by decide +kernel) ⟨Nat.le_of_ble_eq_true rfl, Nat.le_of_ble_eq_true rfl⟩) (mRecv hK hP) hAc hA hK hP hS rfl hl.1 rfl (Nat.le_of_ble_eq_true rfl) dX3_close_23 ⟨Nat.zero_le _, Nat.zero_le _⟩ (fun H locs hP hS => ?_)
      refine k_if_eq (tgt := 31) hx hb dX3_close_26 (by decide) (gNz_nB _) (fun _ => ?_) (fun c9 => absurd c9 (by decide))
      refine k_iconst hx hb dX3_close_31 ?_
      refine lv_istore_n (lv' := [(1, .int (iI 0)), (0, .ref (ad 0))]) hx hb dX3_close_32 rfl hl (by decide) rfl (fun ls hl => ?_)
      have q41 : up σ 0 0 0 = itr gS1 (up σ 0 0 0) 0 := by rfl
      rw [q41] at hP
      exact loop1 ((σ 0 6).toNat + 1) 0 (Nat.zero_le _) (by omega) (by omega) _ _ _ hP hS (lv_sub hl [1, 0] rfl)
    · refine k_iconst hx hb dX3_close_18 ?_
      refine lv_goto (tgt := 23) hx hb dX3_close_19 (by decide) ?_
      refine k_mci (As := [.int (iI 1)]) (rest := []) ⟨hx, hb, hml, hown, hts⟩ (m_refused l G ad cy hI σ 1 (by decide)) (cwV 1 hts gX3_close_X3_refused rfl rfl rfl (by decide +kernel) ⟨Nat.le_of_ble_eq_true rfl, Nat.le_of_ble_eq_true rfl⟩) (mRecv hK hP) hAc hA hK hP hS rfl hl.1 rfl (Nat.le_of_ble_eq_true rfl) dX3_close_23 ⟨Nat.zero_le _, Nat.zero_le _⟩ (fun H locs hP hS => ?_)
      refine k_if_eq (tgt := 31) hx hb dX3_close_26 (by decide) (gNz_nB _) (fun c9 => absurd c9 (by decide)) (fun _ => ?_)
      refine k_iconst hx hb dX3_close_29 ?_
      have eQ : qClose σ = 1 := by unfold qClose; (repeat' split) <;> first | rfl | omega
      have eF : up σ 0 0 1 = tOf (qClose σ) σ (gClose σ) := by (rw [tOf_n eQ (by decide)]); try (rfl)
      rw [eF] at hP
      have eR : 0 = rOf (qClose σ) (σ 0 1 + 1) := by (rw [rOf_n eQ (by decide)]); try (rfl)
      exact W.iret hx hb hr (fun t ht hW => ⟨⟨_, _, rfl, ⟨congrArg iI eR, rfl⟩, by rw [ht]; exact hP, va_K.moved hW.alike hK⟩, hS.F ht⟩) hS.2.2 dX3_close_30
