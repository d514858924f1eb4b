def f_M_bones_35 (N : Nat) (iM20 : Int32) (iM22 : Int32) (iM28 : Int32) (iM36 : Int32) (iM37 : Int32) (iM64 : Int32) (iM65 : Int32) (aM15 : Nat → Int32) (aM16 : Nat → Int32) (aM17 : Nat → Int32) (aM19 : Nat → Int32) (aM21 : Nat → Int32) (aM29 : Nat → Int32) (aM57 : Nat → Int32) (aM58 : Nat → Int32) (aM59 : Nat → Int32) (aM60 : Nat → Int32) (aM61 : Nat → Int32) (aM62 : Nat → Int32) (aM63 : Nat → Int32) (v1 : Int32) : Nat → Int32 → Int32 → Int32 → Int32 → (Nat → Int32) → (Nat → Int32) → (Nat → Int32) → Option (Int32 × Int32 × Int32 × (Nat → Int32) × (Nat → Int32) × (Nat → Int32))
  | 0, _, _, _, _, _, _, _ => none
  | n + 1, v2, v3, x_iM64, x_iM65, x_aM61, x_aM62, x_aM63 => if iM20 ≤ v3 then ((f_M_sift N ((0 : Int32)) ((0 : Int32)) iM20 iM28 iM36 x_iM64 x_iM65 aM15 aM16 aM17 aM19 aM29 aM57 aM58 aM59 aM60 x_aM61 x_aM62 x_aM63).bind fun q76 => (some (((((1 : Int32) <<< (iM20 &&& 31)) - (1 : Int32)) &&& (v2 ^^^ (-1 : Int32))), q76.1, q76.2.1, q76.2.2.1, q76.2.2.2.1, q76.2.2.2.2))) else ((f_M_sift N ((v2 ||| ((1 : Int32) <<< (v3 &&& 31)))) ((0 : Int32)) iM20 iM28 iM36 x_iM64 x_iM65 aM15 aM16 aM17 aM19 aM29 aM57 aM58 aM59 aM60 x_aM61 x_aM62 x_aM63).bind fun q50 => ((f_M_leastOf N v1 iM36 aM21 aM57 q50.2.2.2.1).bind fun q55 => (if 0 ≤ q55 then (f_M_bones_35 N iM20 iM22 iM28 iM36 iM37 iM64 iM65 aM15 aM16 aM17 aM19 aM21 aM29 aM57 aM58 aM59 aM60 aM61 aM62 aM63 v1 n v2 ((v3 + (1 : Int32))) q50.1 q50.2.1 q50.2.2.1 q50.2.2.2.1 q50.2.2.2.2) else (f_M_bones_35 N iM20 iM22 iM28 iM36 iM37 iM64 iM65 aM15 aM16 aM17 aM19 aM21 aM29 aM57 aM58 aM59 aM60 aM61 aM62 aM63 v1 n ((v2 ||| ((1 : Int32) <<< (v3 &&& 31)))) ((v3 + (1 : Int32))) q50.1 q50.2.1 q50.2.2.1 q50.2.2.2.1 q50.2.2.2.2))))
def f_M_bones (N : Nat) (a1 : Int32) (iM20 : Int32) (iM22 : Int32) (iM28 : Int32) (iM36 : Int32) (iM37 : Int32) (iM64 : Int32) (iM65 : Int32) (aM15 : Nat → Int32) (aM16 : Nat → Int32) (aM17 : Nat → Int32) (aM19 : Nat → Int32) (aM21 : Nat → Int32) (aM29 : Nat → Int32) (aM57 : Nat → Int32) (aM58 : Nat → Int32) (aM59 : Nat → Int32) (aM60 : Nat → Int32) (aM61 : Nat → Int32) (aM62 : Nat → Int32) (aM63 : Nat → Int32) : Option (Int32 × Int32 × Int32 × (Nat → Int32) × (Nat → Int32) × (Nat → Int32)) := if iM37 = 0 then (some ((-101 : Int32), iM64, iM65, aM61, aM62, aM63)) else ((f_M_noQuestion a1 iM22).bind fun q12 => (if q12 = 0 then ((f_M_leastOf N a1 iM36 aM21 aM57 aM62).bind fun q23 => (if q23 < 0 then (f_M_bones_35 N iM20 iM22 iM28 iM36 iM37 iM64 iM65 aM15 aM16 aM17 aM19 aM21 aM29 aM57 aM58 aM59 aM60 aM61 aM62 aM63 a1 N ((0 : Int32)) ((0 : Int32)) iM64 iM65 aM61 aM62 aM63) else (some ((-1 : Int32), iM64, iM65, aM61, aM62, aM63)))) else (some ((-102 : Int32), iM64, iM65, aM61, aM62, aM63))))
set_option maxHeartbeats 8000000 in
set_option maxRecDepth 100000 in
theorem c_M_bones (l : Launch) (dC : Nat → ClassId) (dI : Nat → Nat → Nat) (cy : Nat → ClassId) (ad : Nat → Nat) (sz : Nat) (N : Nat) (a1 : Int32) (iM : Nat → Int32) (aM : Nat → Nat → Int32) (q : Int32 × Int32 × Int32 × (Nat → Int32) × (Nat → Int32) × (Nat → Int32)) (h : f_M_bones N a1 (iM 20) (iM 22) (iM 28) (iM 36) (iM 37) (iM 64) (iM 65) (aM 15) (aM 16) (aM 17) (aM 19) (aM 21) (aM 29) (aM 57) (aM 58) (aM 59) (aM 60) (aM 61) (aM 62) (aM 63) = some q) : Met l yX8_bones wsX8_bones ({ frames := 4, cells := 0, slots := 0, locals := 100 } : Room) (cP (dC, dI) cy [.ref (ad 0), .int a1] (zzM ad cy iM aM) sz) (cQi (dC, dI) cy q.1 (zzM ad cy (us iM [(64, q.2.1), (65, q.2.2.1)]) (us aM [(61, q.2.2.2.1), (62, q.2.2.2.2.1), (63, q.2.2.2.2.2)])) (va_A (zzM ad cy iM aM) sz)) 0 0 (va_A (zzM ad cy iM aM) sz) := by
  refine Met.ofW (cc := cX8_bones) (maxL := 4) (ret := (some .int)) (by decide) rfl ?_
  intro p e s m args below meth c s₁ B hml hv
  obtain ⟨hav, hsz, hP, hK, hD0, hN⟩ := hv
  have hx := B.exec
  have hb := B.bytes
  have hr := B.returns
  have hts := atoms_spec (ws := wsX8_bones) B.pre
  have hown : s.vm.findClass RX8 = some m.cls := findClass_of_methodNamed B.named
  have hlocks := B.notSynchronized
  subst hsz
  have hD := hD0.self (sz := s.heap.size)
  generalize hAe : va_A (zzM ad cy iM aM) s.heap.size = A at hD ⊢
  have hA : ∀ q : Nat, s.heap.size ≤ q → A q := fun q h => by rw [← hAe]; exact Or.inr h
  have hS : va_S A s.heap s.heap [] := va_S.rf
  generalize hWQ : (zzM ad cy (us iM [(64, q.2.1), (65, q.2.2.1)]) (us aM [(61, q.2.2.2.1), (62, q.2.2.2.2.1), (63, q.2.2.2.2.2)])) = WQ
  generalize hQQ : MQ below (cQi (dC, dI) cy q.1 WQ A) args s 0 0 A = QQ
  have hl := lv_entry ([.ref (ad 0), .int a1] : List Value) (n := 4) (Nat.le_of_ble_eq_true rfl)
  have hfr := lg_entry_eq m ([.ref (ad 0), .int a1] : List Value) 4
  rw [← hav] at hfr
  rw [hfr]
  clear hfr hav
  generalize (lg_sl ([.ref (ad 0), .int a1] : List Value) ++ List.replicate (4 - (lg_sl ([.ref (ad 0), .int a1] : List Value)).length) Slot.unset).toArray = ls at hl ⊢
  have hl : lv_has ls 4 [(0, .ref (ad 0)), (1, .int a1)] := hl
  have kf341 := hts _ (List.mem_cons_of_mem _ m_fl_X8_341)
  have ki8 := (fun w h => List.mem_cons_of_mem _ (i_X8 w h) : ∀ w ∈ u_ws RX8 TX8 78, w ∈ wsX8_bones)
  have kf356 := hts _ (List.mem_cons_of_mem _ m_fl_X8_356)
  refine (?_ : ∀ (H : Heap) (locs : List Loc), va_P (dC, dI) vwCl (zzM ad cy iM aM) H → va_D A (zzM ad cy iM aM) → va_S A s.heap H locs → W p l e ({ frames := 4, cells := 0, slots := 0, locals := 100 } : Room) s m args below meth c H locs 0 0 QQ (F0 m 0 ls [])) s.heap [] hP hD hS
  clear hP hD hS
  have B35 : ∀ (n : Nat) (v1 : Int32) (v2 : Int32) (v3 : Int32) (x_iM64 : Int32) (x_iM65 : Int32) (x_aM61 : Nat → Int32) (x_aM62 : Nat → Int32) (x_aM63 : Nat → Int32) (H : Heap) (locs : List Loc) (ls : Array Slot), f_M_bones_35 N (iM 20) (iM 22) (iM 28) (iM 36) (iM 37) (iM 64) (iM 65) (aM 15) (aM 16) (aM 17) (aM 19) (aM 21) (aM 29) (aM 57) (aM 58) (aM 59) (aM 60) (aM 61) (aM 62) (aM 63) v1 n v2 v3 x_iM64 x_iM65 x_aM61 x_aM62 x_aM63 = some q → va_P (dC, dI) vwCl (zzM ad cy (us iM [(64, x_iM64), (65, x_iM65)]) (us aM [(61, x_aM61), (62, x_aM62), (63, x_aM63)])) H → va_D A (zzM ad cy (us iM [(64, x_iM64), (65, x_iM65)]) (us aM [(61, x_aM61), (62, x_aM62), (63, x_aM63)])) → va_S A s.heap H locs → lv_has ls 4 [(0, .ref (ad 0)), (1, .int v1), (2, .int v2), (3, .int v3)] → W p l e ({ frames := 4, cells := 0, slots := 0, locals := 100 } : Room) s m args below meth c H locs 0 0 QQ (F0 m 35 ls []) := by
    intro n
    induction n with
    | zero =>
      intro v1 v2 v3 x_iM64 x_iM65 x_aM61 x_aM62 x_aM63 H locs ls h hP hD hS hl
      rw [f_M_bones_35] at h
      cases h
    | succ n ih =>
      intro v1 v2 v3 x_iM64 x_iM65 x_aM61 x_aM62 x_aM63 H locs ls h hP hD hS hl
      rw [f_M_bones_35] at h
      refine lv_iload_n hx hb dX8_bones_35 rfl (lv_at hl 3 rfl) ?_
      refine lv_aload_n hx hb dX8_bones_36 rfl (lv_at hl 0 rfl) ?_
      refine va_get (D := (dC, dI)) (ci := 8) (v := .int (iM 20)) (C := RX8) (T := TX8) (N := 78) hx hb hts ki8 hown hK hP 0 rfl rfl 20 (by decide) kf341 (fun _ h9 => h9) rfl dX8_bones_37 ?_
      refine lv_icmp_ge (tgt := 73) hx hb dX8_bones_40 (by decide) (fun cz => ?_) (fun cz => ?_)
      · have h := g_t h cz
        refine lv_aload_n hx hb dX8_bones_73 rfl (lv_at hl 0 rfl) ?_
        refine lv_iconst (v := 0) hx hb dX8_bones_74 (by decide) ?_
        refine lv_iconst (v := 0) hx hb dX8_bones_75 (by decide) ?_
        obtain ⟨q76, e76, h⟩ := g_b h
        refine callVvs (cc := cX8_bones) (w1 := zzM ad cy (us iM [(64, q76.1), (65, q76.2.1)]) (us aM [(61, q76.2.2.1), (62, q76.2.2.2.1), (63, q76.2.2.2.2)])) (As := [.int ((0 : Int32)), .int ((0 : Int32))]) (rest := []) ⟨hx, hb, hml, hown, hts⟩ (c_M_sift l dC dI cy ad H.size N ((0 : Int32)) ((0 : Int32)) ((us iM [(64, x_iM64), (65, x_iM65)])) ((us aM [(61, x_aM61), (62, x_aM62), (63, x_aM63)])) q76 e76) (cwV 2 hts (goodV m_ml_X8_398 m_im_X8_sift m_se_X8_sift m_in_X8 m_cd_X8_sift) rfl rfl rfl (by decide +kernel) ⟨Nat.le_of_ble_eq_true rfl, Nat.le_of_ble_eq_true rfl⟩) hN hK hP hD hS hA rfl 0 rfl rfl rfl hl.1 rfl (Nat.le_of_ble_eq_true rfl) dX8_bones_76 ⟨Nat.zero_le _, Nat.zero_le _⟩ (fun H locs hP hD hS => ?_)
        refine lv_iconst (v := 1) hx hb dX8_bones_79 (by decide) ?_
        refine lv_aload_n hx hb dX8_bones_80 rfl (lv_at hl 0 rfl) ?_
        refine va_get (D := (dC, dI)) (ci := 8) (v := .int (iM 20)) (C := RX8) (T := TX8) (N := 78) hx hb hts ki8 hown hK hP 0 rfl rfl 20 (by decide) kf341 (fun _ h9 => h9) rfl dX8_bones_81 ?_
        refine lv_ishl hx hb dX8_bones_84 ?_
        refine lv_iconst (v := 1) hx hb dX8_bones_85 (by decide) ?_
        refine lv_isub hx hb dX8_bones_86 ?_
        refine lv_iload_n hx hb dX8_bones_87 rfl (lv_at hl 2 rfl) ?_
        refine lv_iconst (v := (-1)) hx hb dX8_bones_88 (by decide) ?_
        refine lv_ixor hx hb dX8_bones_89 ?_
        refine lv_iand hx hb dX8_bones_90 ?_
        have h' := Option.some.inj h
        rw [← hQQ]
        exact W.iret (v := ((((1 : Int32) <<< ((iM 20) &&& 31)) - (1 : Int32)) &&& (v2 ^^^ (-1 : Int32)))) hx hb hr (fun t ht hW => ⟨⟨((((1 : Int32) <<< ((iM 20) &&& 31)) - (1 : Int32)) &&& (v2 ^^^ (-1 : Int32))), (), rfl, by rw [← h'], by rw [← hWQ, ← h', ht]; exact hP, va_K.moved hW.alike hK⟩, hS.F ht⟩) hS.2.2 dX8_bones_91
      · have h := g_f h cz
        refine lv_aload_n hx hb dX8_bones_43 rfl (lv_at hl 0 rfl) ?_
        refine lv_iload_n hx hb dX8_bones_44 rfl (lv_at hl 2 rfl) ?_
        refine lv_iconst (v := 1) hx hb dX8_bones_45 (by decide) ?_
        refine lv_iload_n hx hb dX8_bones_46 rfl (lv_at hl 3 rfl) ?_
        refine lv_ishl hx hb dX8_bones_47 ?_
        refine lv_ior hx hb dX8_bones_48 ?_
        refine lv_iconst (v := 0) hx hb dX8_bones_49 (by decide) ?_
        obtain ⟨q50, e50, h⟩ := g_b h
        refine callVvs (cc := cX8_bones) (w1 := zzM ad cy (us iM [(64, q50.1), (65, q50.2.1)]) (us aM [(61, q50.2.2.1), (62, q50.2.2.2.1), (63, q50.2.2.2.2)])) (As := [.int ((v2 ||| ((1 : Int32) <<< (v3 &&& 31)))), .int ((0 : Int32))]) (rest := []) ⟨hx, hb, hml, hown, hts⟩ (c_M_sift l dC dI cy ad H.size N ((v2 ||| ((1 : Int32) <<< (v3 &&& 31)))) ((0 : Int32)) ((us iM [(64, x_iM64), (65, x_iM65)])) ((us aM [(61, x_aM61), (62, x_aM62), (63, x_aM63)])) q50 e50) (cwV 2 hts (goodV m_ml_X8_398 m_im_X8_sift m_se_X8_sift m_in_X8 m_cd_X8_sift) rfl rfl rfl (by decide +kernel) ⟨Nat.le_of_ble_eq_true rfl, Nat.le_of_ble_eq_true rfl⟩) hN hK hP hD hS hA rfl 0 rfl rfl rfl hl.1 rfl (Nat.le_of_ble_eq_true rfl) dX8_bones_50 ⟨Nat.zero_le _, Nat.zero_le _⟩ (fun H locs hP hD hS => ?_)
        refine lv_aload_n hx hb dX8_bones_53 rfl (lv_at hl 0 rfl) ?_
        refine lv_iload_n hx hb dX8_bones_54 rfl (lv_at hl 1 rfl) ?_
        obtain ⟨q55, e55, h⟩ := g_b h
        refine callVis (cc := cX8_bones) (w1 := zzM ad cy (us iM [(64, q50.1), (65, q50.2.1)]) (us aM [(61, q50.2.2.1), (62, q50.2.2.2.1), (63, q50.2.2.2.2)])) (As := [.int v1]) (rest := []) ⟨hx, hb, hml, hown, hts⟩ (c_M_leastOf l dC dI cy ad H.size N v1 ((us iM [(64, q50.1), (65, q50.2.1)])) ((us aM [(61, q50.2.2.1), (62, q50.2.2.2.1), (63, q50.2.2.2.2)])) q55 e55) (cwV 1 hts (goodV m_ml_X8_417 m_im_X8_leastOf m_se_X8_leastOf m_in_X8 m_cd_X8_leastOf) rfl rfl rfl (by decide +kernel) ⟨Nat.le_of_ble_eq_true rfl, Nat.le_of_ble_eq_true rfl⟩) hN hK hP hD hS hA rfl 0 rfl rfl rfl hl.1 rfl (Nat.le_of_ble_eq_true rfl) dX8_bones_55 ⟨Nat.zero_le _, Nat.zero_le _⟩ (fun H locs hP hD hS => ?_)
        refine lv_if_ge (tgt := 67) hx hb dX8_bones_58 (by decide) (fun cz => ?_) (fun cz => ?_)
        · have h := g_t h cz
          refine lv_iinc (v := (v3 + (1 : Int32))) (lv' := [(3, .int ((v3 + (1 : Int32)))), (0, .ref (ad 0)), (1, .int v1), (2, .int v2)]) hx hb dX8_bones_67 hl (k := 3) rfl rfl (by decide) rfl (fun ls hl => ?_)
          refine lv_goto (tgt := 35) hx hb dX8_bones_70 (by decide) ?_
          exact ih v1 v2 ((v3 + (1 : Int32))) q50.1 q50.2.1 q50.2.2.1 q50.2.2.2.1 q50.2.2.2.2 H locs ls h hP hD hS (lv_sub hl [1, 2, 3, 0] rfl)
        · have h := g_f h cz
          refine lv_iload_n hx hb dX8_bones_61 rfl (lv_at hl 2 rfl) ?_
          refine lv_iconst (v := 1) hx hb dX8_bones_62 (by decide) ?_
          refine lv_iload_n hx hb dX8_bones_63 rfl (lv_at hl 3 rfl) ?_
          refine lv_ishl hx hb dX8_bones_64 ?_
          refine lv_ior hx hb dX8_bones_65 ?_
          refine lv_istore_n (lv' := [(2, .int ((v2 ||| ((1 : Int32) <<< (v3 &&& 31))))), (0, .ref (ad 0)), (1, .int v1), (3, .int v3)]) hx hb dX8_bones_66 rfl hl (by decide) rfl (fun ls hl => ?_)
          refine lv_iinc (v := (v3 + (1 : Int32))) (lv' := [(3, .int ((v3 + (1 : Int32)))), (2, .int ((v2 ||| ((1 : Int32) <<< (v3 &&& 31))))), (0, .ref (ad 0)), (1, .int v1)]) hx hb dX8_bones_67 hl (k := 3) rfl rfl (by decide) rfl (fun ls hl => ?_)
          refine lv_goto (tgt := 35) hx hb dX8_bones_70 (by decide) ?_
          exact ih v1 ((v2 ||| ((1 : Int32) <<< (v3 &&& 31)))) ((v3 + (1 : Int32))) q50.1 q50.2.1 q50.2.2.1 q50.2.2.2.1 q50.2.2.2.2 H locs ls h hP hD hS (lv_sub hl [2, 3, 1, 0] rfl)
  intro H locs hP hD hS
  unfold f_M_bones at h
  refine lv_aload_n hx hb dX8_bones_0 rfl (lv_at hl 0 rfl) ?_
  refine va_get (D := (dC, dI)) (ci := 8) (v := .int (iM 37)) (C := RX8) (T := TX8) (N := 78) hx hb hts ki8 hown hK hP 0 rfl rfl 37 (by decide) kf356 (fun _ h9 => h9) rfl dX8_bones_1 ?_
  refine lv_if_ne (tgt := 10) hx hb dX8_bones_4 (by decide) (fun cz => ?_) (fun cz => ?_)
  · have h := g_f h cz
    refine lv_aload_n hx hb dX8_bones_10 rfl (lv_at hl 0 rfl) ?_
    refine lv_iload_n hx hb dX8_bones_11 rfl (lv_at hl 1 rfl) ?_
    obtain ⟨q12, e12, h⟩ := g_b h
    refine callVis (cc := cX8_bones) (w1 := zzM ad cy iM aM) (As := [.int a1]) (rest := []) ⟨hx, hb, hml, hown, hts⟩ (c_M_noQuestion l dC dI cy ad H.size a1 iM aM q12 e12) (cwV 1 hts (goodV m_ml_X8_411 m_im_X8_noQuestion m_se_X8_noQuestion m_in_X8 m_cd_X8_noQuestion) rfl rfl rfl (by decide +kernel) ⟨Nat.le_of_ble_eq_true rfl, Nat.le_of_ble_eq_true rfl⟩) hN hK hP hD hS hA rfl 0 rfl rfl rfl hl.1 rfl (Nat.le_of_ble_eq_true rfl) dX8_bones_12 ⟨Nat.zero_le _, Nat.zero_le _⟩ (fun H locs hP hD hS => ?_)
    refine lv_if_eq (tgt := 21) hx hb dX8_bones_15 (by decide) (fun cz => ?_) (fun cz => ?_)
    · have h := g_t h cz
      refine lv_aload_n hx hb dX8_bones_21 rfl (lv_at hl 0 rfl) ?_
      refine lv_iload_n hx hb dX8_bones_22 rfl (lv_at hl 1 rfl) ?_
      obtain ⟨q23, e23, h⟩ := g_b h
      refine callVis (cc := cX8_bones) (w1 := zzM ad cy iM aM) (As := [.int a1]) (rest := []) ⟨hx, hb, hml, hown, hts⟩ (c_M_leastOf l dC dI cy ad H.size N a1 iM aM q23 e23) (cwV 1 hts (goodV m_ml_X8_417 m_im_X8_leastOf m_se_X8_leastOf m_in_X8 m_cd_X8_leastOf) rfl rfl rfl (by decide +kernel) ⟨Nat.le_of_ble_eq_true rfl, Nat.le_of_ble_eq_true rfl⟩) hN hK hP hD hS hA rfl 0 rfl rfl rfl hl.1 rfl (Nat.le_of_ble_eq_true rfl) dX8_bones_23 ⟨Nat.zero_le _, Nat.zero_le _⟩ (fun H locs hP hD hS => ?_)
      refine lv_if_lt (tgt := 31) hx hb dX8_bones_26 (by decide) (fun cz => ?_) (fun cz => ?_)
      · have h := g_t h cz
        refine lv_iconst (v := 0) hx hb dX8_bones_31 (by decide) ?_
        refine lv_istore_n (lv' := [(2, .int ((0 : Int32))), (0, .ref (ad 0)), (1, .int a1)]) hx hb dX8_bones_32 rfl hl (by decide) rfl (fun ls hl => ?_)
        refine lv_iconst (v := 0) hx hb dX8_bones_33 (by decide) ?_
        refine lv_istore_n (lv' := [(3, .int ((0 : Int32))), (2, .int ((0 : Int32))), (0, .ref (ad 0)), (1, .int a1)]) hx hb dX8_bones_34 rfl hl (by decide) rfl (fun ls hl => ?_)
        exact B35 N a1 ((0 : Int32)) ((0 : Int32)) (iM 64) (iM 65) (aM 61) (aM 62) (aM 63) H locs ls h hP hD hS (lv_sub hl [2, 3, 1, 0] rfl)
      · have h := g_f h cz
        refine lv_iconst (v := (-1)) hx hb dX8_bones_29 (by decide) ?_
        have h' := Option.some.inj h
        rw [← hQQ]
        exact W.iret (v := (-1 : Int32)) hx hb hr (fun t ht hW => ⟨⟨(-1 : Int32), (), rfl, by rw [← h'], by rw [← hWQ, ← h', ht]; exact hP, va_K.moved hW.alike hK⟩, hS.F ht⟩) hS.2.2 dX8_bones_30
    · have h := g_f h cz
      refine lv_bipush (v := (-102)) hx hb dX8_bones_18 (by decide) ?_
      have h' := Option.some.inj h
      rw [← hQQ]
      exact W.iret (v := (-102 : Int32)) hx hb hr (fun t ht hW => ⟨⟨(-102 : Int32), (), rfl, by rw [← h'], by rw [← hWQ, ← h', ht]; exact hP, va_K.moved hW.alike hK⟩, hS.F ht⟩) hS.2.2 dX8_bones_20
  · have h := g_t h cz
    refine lv_bipush (v := (-101)) hx hb dX8_bones_7 (by decide) ?_
    have h' := Option.some.inj h
    rw [← hQQ]
    exact W.iret (v := (-101 : Int32)) hx hb hr (fun t ht hW => ⟨⟨(-101 : Int32), (), rfl, by rw [← h'], by rw [← hWQ, ← h', ht]; exact hP, va_K.moved hW.alike hK⟩, hS.F ht⟩) hS.2.2 dX8_bones_9
