def f_K_broken (a1 : Int32) (a2 : Int32) (lK3 : Nat → Int64) : Option Int64 := (f_B_leftOf a1).bind fun q2 => ((f_K_truthOf q2 a2 lK3).bind fun q6 => ((f_B_rightOf a1).bind fun q12 => ((f_K_truthOf q12 a2 lK3).bind fun q16 => ((f_B_sortOf a1).bind fun q22 => (if q22 = (1 : Int32) then (some (q6 ^^^ q16)) else (some (q6 &&& (q16 ^^^ (-1 : Int64)))))))))
set_option maxHeartbeats 8000000 in
set_option maxRecDepth 100000 in
theorem c_K_broken (l : Launch) (dC : Nat → ClassId) (dI : Nat → Nat → Nat) (cy : Nat → ClassId) (ad : Nat → Nat) (sz : Nat) (a1 : Int32) (a2 : Int32) (iK : Nat → Int32) (lK : Nat → Nat → Int64) (aK : Nat → Nat → Int32) (iB : Nat → Int32) (lB : Nat → Nat → Int64) (aB : Nat → Nat → Int32) (iC : Nat → Int32) (aC : Nat → Nat → Int32) (q : Int64) (h : f_K_broken a1 a2 (lK 3) = some q) : Met l yX2_broken wsX2_broken ({ frames := 1, cells := 0, slots := 0, locals := 22 } : Room) (cP (dC, dI) cy [.ref (ad 0), .int a1, .int a2] (zzK ad cy (ad 11) (ad 18) iK lK aK iB lB aB iC aC) sz) (cQl (dC, dI) cy q (zzK ad cy (ad 11) (ad 18) iK lK aK iB lB aB iC aC) (va_A (zzK ad cy (ad 11) (ad 18) iK lK aK iB lB aB iC aC) sz)) 0 0 (va_A (zzK ad cy (ad 11) (ad 18) iK lK aK iB lB aB iC aC) sz) := by
  refine Met.ofW (cc := cX2_broken) (maxL := 7) (ret := (some .long)) (by decide) rfl ?_
  intro p e s m args below meth c s₁ B hml hv
  obtain ⟨hav, hsz, hP, hK, hD0, hN⟩ := hv
  have hx := B.exec
  have hb := B.bytes
  have hr := B.returns
  have hts := atoms_spec (ws := wsX2_broken) B.pre
  have hown : s.vm.findClass RX2 = some m.cls := findClass_of_methodNamed B.named
  have hlocks := B.notSynchronized
  subst hsz
  have hD := hD0.self (sz := s.heap.size)
  generalize hAe : va_A (zzK ad cy (ad 11) (ad 18) iK lK aK iB lB aB iC aC) s.heap.size = A at hD ⊢
  have hA : ∀ q : Nat, s.heap.size ≤ q → A q := fun q h => by rw [← hAe]; exact Or.inr h
  have hS : va_S A s.heap s.heap [] := va_S.rf
  generalize hWQ : (zzK ad cy (ad 11) (ad 18) iK lK aK iB lB aB iC aC) = WQ
  generalize hQQ : MQ below (cQl (dC, dI) cy q WQ A) args s 0 0 A = QQ
  have hl := lv_entry ([.ref (ad 0), .int a1, .int a2] : List Value) (n := 7) (Nat.le_of_ble_eq_true rfl)
  have hfr := lg_entry_eq m ([.ref (ad 0), .int a1, .int a2] : List Value) 7
  rw [← hav] at hfr
  rw [hfr]
  clear hfr hav
  generalize (lg_sl ([.ref (ad 0), .int a1, .int a2] : List Value) ++ List.replicate (7 - (lg_sl ([.ref (ad 0), .int a1, .int a2] : List Value)).length) Slot.unset).toArray = ls at hl ⊢
  have hl : lv_has ls 7 [(0, .ref (ad 0)), (1, .int a1), (2, .int a2)] := hl
  have kc88 := hts _ (List.mem_cons_of_mem _ m_kl_X2_88)
  refine (?_ : ∀ (H : Heap) (locs : List Loc), va_P (dC, dI) vwCl (zzK ad cy (ad 11) (ad 18) iK lK aK iB lB aB iC aC) H → va_D A (zzK ad cy (ad 11) (ad 18) iK lK aK iB lB aB iC aC) → va_S A s.heap H locs → W p l e ({ frames := 1, cells := 0, slots := 0, locals := 22 } : Room) s m args below meth c H locs 0 0 QQ (F0 m 0 ls [])) s.heap [] hP hD hS
  clear hP hD hS
  intro H locs hP hD hS
  unfold f_K_broken at h
  refine lv_aload_n hx hb dX2_broken_0 rfl (lv_at hl 0 rfl) ?_
  refine lv_iload_n hx hb dX2_broken_1 rfl (lv_at hl 1 rfl) ?_
  obtain ⟨q2, e2, h⟩ := g_b h
  refine callSi (cc := cX2_broken) (ws' := zzK ad cy (ad 11) (ad 18) iK lK aK iB lB aB iC aC) (As := [.int a1]) (rest := [.ref (ad 0)]) ⟨hx, hb, hml, hown, hts⟩ (c_B_leftOf l dC dI cy ad H.size a1 q2 e2) (va_cwS 1 hts (goodS m_ml_X2_160 m_st_X0_leftOf m_in_X0 m_cd_X0_leftOf) rfl rfl rfl (by decide +kernel) ⟨Nat.le_of_ble_eq_true rfl, Nat.le_of_ble_eq_true rfl⟩) hN hK hP hD hS hA [] [none, none, none, none, none, none, none, none, none, none, none, none, none, none, none, none, none, none, none, none, none, none, none, none, none, none, none] rfl rfl rfl rfl rfl rfl rfl hl.1 rfl (Nat.le_of_ble_eq_true rfl) dX2_broken_2 ⟨Nat.zero_le _, Nat.zero_le _⟩ (fun H locs hP hD hS => ?_)
  refine lv_iload_n hx hb dX2_broken_5 rfl (lv_at hl 2 rfl) ?_
  obtain ⟨q6, e6, h⟩ := g_b h
  refine callVls (cc := cX2_broken) (w1 := zzK ad cy (ad 11) (ad 18) iK lK aK iB lB aB iC aC) (As := [.int q2, .int a2]) (rest := []) ⟨hx, hb, hml, hown, hts⟩ (c_K_truthOf l dC dI cy ad H.size q2 a2 iK lK aK iB lB aB iC aC q6 e6) (cwV 2 hts (goodV m_ml_X2_81 m_im_X2_truthOf m_se_X2_truthOf m_in_X2 m_cd_X2_truthOf) rfl rfl rfl (by decide +kernel) ⟨Nat.le_of_ble_eq_true rfl, Nat.le_of_ble_eq_true rfl⟩) hN hK hP hD hS hA rfl 0 rfl rfl rfl hl.1 rfl (Nat.le_of_ble_eq_true rfl) dX2_broken_6 ⟨Nat.zero_le _, Nat.zero_le _⟩ (fun H locs hP hD hS => ?_)
  refine lv_lstore_n (lv' := [(3, .long q6), (0, .ref (ad 0)), (1, .int a1), (2, .int a2)]) hx hb dX2_broken_9 rfl hl (by decide) rfl (fun ls hl => ?_)
  refine lv_aload_n hx hb dX2_broken_10 rfl (lv_at hl 1 rfl) ?_
  refine lv_iload_n hx hb dX2_broken_11 rfl (lv_at hl 2 rfl) ?_
  obtain ⟨q12, e12, h⟩ := g_b h
  refine callSi (cc := cX2_broken) (ws' := zzK ad cy (ad 11) (ad 18) iK lK aK iB lB aB iC aC) (As := [.int a1]) (rest := [.ref (ad 0)]) ⟨hx, hb, hml, hown, hts⟩ (c_B_rightOf l dC dI cy ad H.size a1 q12 e12) (va_cwS 1 hts (goodS m_ml_X2_161 m_st_X0_rightOf m_in_X0 m_cd_X0_rightOf) rfl rfl rfl (by decide +kernel) ⟨Nat.le_of_ble_eq_true rfl, Nat.le_of_ble_eq_true rfl⟩) hN hK hP hD hS hA [] [none, none, none, none, none, none, none, none, none, none, none, none, none, none, none, none, none, none, none, none, none, none, none, none, none, none, none] rfl rfl rfl rfl rfl rfl rfl hl.1 rfl (Nat.le_of_ble_eq_true rfl) dX2_broken_12 ⟨Nat.zero_le _, Nat.zero_le _⟩ (fun H locs hP hD hS => ?_)
  refine lv_iload_n hx hb dX2_broken_15 rfl (lv_at hl 3 rfl) ?_
  obtain ⟨q16, e16, h⟩ := g_b h
  refine callVls (cc := cX2_broken) (w1 := zzK ad cy (ad 11) (ad 18) iK lK aK iB lB aB iC aC) (As := [.int q12, .int a2]) (rest := []) ⟨hx, hb, hml, hown, hts⟩ (c_K_truthOf l dC dI cy ad H.size q12 a2 iK lK aK iB lB aB iC aC q16 e16) (cwV 2 hts (goodV m_ml_X2_81 m_im_X2_truthOf m_se_X2_truthOf m_in_X2 m_cd_X2_truthOf) rfl rfl rfl (by decide +kernel) ⟨Nat.le_of_ble_eq_true rfl, Nat.le_of_ble_eq_true rfl⟩) hN hK hP hD hS hA rfl 0 rfl rfl rfl hl.1 rfl (Nat.le_of_ble_eq_true rfl) dX2_broken_16 ⟨Nat.zero_le _, Nat.zero_le _⟩ (fun H locs hP hD hS => ?_)
  refine lv_lstore (lv' := [(5, .long q16), (3, .long q6), (0, .ref (ad 0)), (1, .int a1), (2, .int a2)]) hx hb dX2_broken_19 hl (by decide) rfl (fun ls hl => ?_)
  refine lv_iload_n hx hb dX2_broken_21 rfl (lv_at hl 3 rfl) ?_
  obtain ⟨q22, e22, h⟩ := g_b h
  refine callSi (cc := cX2_broken) (ws' := zzK ad cy (ad 11) (ad 18) iK lK aK iB lB aB iC aC) (As := [.int a1]) (rest := []) ⟨hx, hb, hml, hown, hts⟩ (c_B_sortOf l dC dI cy ad H.size a1 q22 e22) (va_cwS 1 hts (goodS m_ml_X2_162 m_st_X0_sortOf m_in_X0 m_cd_X0_sortOf) rfl rfl rfl (by decide +kernel) ⟨Nat.le_of_ble_eq_true rfl, Nat.le_of_ble_eq_true rfl⟩) hN hK hP hD hS hA [] [none, none, none, none, none, none, none, none, none, none, none, none, none, none, none, none, none, none, none, none, none, none, none, none, none, none, none] rfl rfl rfl rfl rfl rfl rfl hl.1 rfl (Nat.le_of_ble_eq_true rfl) dX2_broken_22 ⟨Nat.zero_le _, Nat.zero_le _⟩ (fun H locs hP hD hS => ?_)
  refine lv_iconst (v := 1) hx hb dX2_broken_25 (by decide) ?_
  refine lv_icmp_ne (tgt := 36) hx hb dX2_broken_26 (by decide) (fun cz => ?_) (fun cz => ?_)
  · have h := g_f h cz
    refine lv_lload_n hx hb dX2_broken_36 rfl (lv_at hl 1 rfl) ?_
    refine lv_lload hx hb dX2_broken_37 (lv_at hl 0 rfl) ?_
    refine lv_ldc2 (v := (-1)) hx hb hown kc88 dX2_broken_39 ?_
    refine lv_lxor hx hb dX2_broken_42 ?_
    refine lv_land hx hb dX2_broken_43 ?_
    have h' := Option.some.inj h
    rw [← hQQ]
    exact W.lret (v := (q6 &&& (q16 ^^^ (-1 : Int64)))) hx hb hr (fun t ht hW => ⟨⟨(q6 &&& (q16 ^^^ (-1 : Int64))), (), rfl, by rw [← h'], by rw [← hWQ, ht]; exact hP, va_K.moved hW.alike hK⟩, hS.F ht⟩) hS.2.2 dX2_broken_44
  · have h := g_t h cz
    refine lv_lload_n hx hb dX2_broken_29 rfl (lv_at hl 1 rfl) ?_
    refine lv_lload hx hb dX2_broken_30 (lv_at hl 0 rfl) ?_
    refine lv_lxor hx hb dX2_broken_32 ?_
    refine lv_goto (tgt := 44) hx hb dX2_broken_33 (by decide) ?_
    have h' := Option.some.inj h
    rw [← hQQ]
    exact W.lret (v := (q6 ^^^ q16)) hx hb hr (fun t ht hW => ⟨⟨(q6 ^^^ q16), (), rfl, by rw [← h'], by rw [← hWQ, ht]; exact hP, va_K.moved hW.alike hK⟩, hS.F ht⟩) hS.2.2 dX2_broken_44
