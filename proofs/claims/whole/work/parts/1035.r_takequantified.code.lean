def f_R_takeQuantified (N : Nat) (one : Int32 → (Nat → Int32) → (Nat → Int32) → Int64 → (Nat → Int32) → (Nat → Int32) → (Nat → Nat → Int64) → (Nat → Nat → Int32) → (Nat → Int32) → (Nat → Nat → Int32) → Option (Int32 × (Nat → Int32) × (Nat → Int32) × Int64 × (Nat → Int32) × (Nat → Nat → Int64) × (Nat → Int32) × (Nat → Nat → Int32))) (a1 : Int32) (a2 : Int32) (a3 : Int32) (iR : Nat → Int32) (iT : Nat → Int32) (wT : Int64) (tx : Nat → Int32) (iB : Nat → Int32) (lB : Nat → Nat → Int64) (aB : Nat → Nat → Int32) (iC : Nat → Int32) (aC : Nat → Nat → Int32) : Option (Int32 × (Nat → Int32) × (Nat → Int32) × Int64 × (Nat → Int32) × (Nat → Nat → Int64) × (Nat → Int32) × (Nat → Nat → Int32)) := (f_R_takeRole N ((iR 3)) ((iR 4)) ((iT 1)) ((iT 2)) ((iT 3)) ((iT 4)) wT tx ((iB 3)) ((iB 5)) ((lB 2)) ((lB 4))).bind fun q1 => (if q1.1 = (-1 : Int32) then (some ((-1 : Int32), (us iR [(3, q1.2.1), (4, q1.2.2.1)]), (us iT [(2, q1.2.2.2.1), (3, q1.2.2.2.2.1), (4, q1.2.2.2.2.2.1)]), q1.2.2.2.2.2.2.1, (us iB [(5, q1.2.2.2.2.2.2.2.1)]), (us lB [(4, q1.2.2.2.2.2.2.2.2)]), iC, aC)) else ((one a3 ((us iR [(3, q1.2.1), (4, q1.2.2.1)])) ((us iT [(2, q1.2.2.2.1), (3, q1.2.2.2.2.1), (4, q1.2.2.2.2.2.1)])) q1.2.2.2.2.2.2.1 tx ((us iB [(5, q1.2.2.2.2.2.2.2.1)])) ((us lB [(4, q1.2.2.2.2.2.2.2.2)])) aB iC aC).bind fun q16 => (if q16.1 = (-1 : Int32) then (some ((-1 : Int32), q16.2.1, q16.2.2.1, q16.2.2.2.1, q16.2.2.2.2.1, q16.2.2.2.2.2.1, q16.2.2.2.2.2.2.1, q16.2.2.2.2.2.2.2)) else ((f_C_make N a1 q16.1 q1.1 ((q16.2.2.2.2.2.2.1 4)) ((q16.2.2.2.2.2.2.1 9)) ((q16.2.2.2.2.2.2.2 0)) ((q16.2.2.2.2.2.2.2 1)) ((q16.2.2.2.2.2.2.2 2)) ((q16.2.2.2.2.2.2.2 3)) ((q16.2.2.2.2.2.2.2 5)) ((q16.2.2.2.2.2.2.2 6)) ((q16.2.2.2.2.2.2.2 7)) ((q16.2.2.2.2.2.2.2 8))).bind fun q38 => (if q38.1 = (-1 : Int32) then ((f_R_fail ((5 : Int32)) a2 ((q16.2.1 3)) ((q16.2.1 4))).bind fun q52 => (some (q52.1, (us q16.2.1 [(3, q52.2.1), (4, q52.2.2)]), q16.2.2.1, q16.2.2.2.1, q16.2.2.2.2.1, q16.2.2.2.2.2.1, (us q16.2.2.2.2.2.2.1 [(4, q38.2.1), (9, q38.2.2.1)]), (us q16.2.2.2.2.2.2.2 [(0, q38.2.2.2.1), (1, q38.2.2.2.2.1), (2, q38.2.2.2.2.2.1), (3, q38.2.2.2.2.2.2.1), (5, q38.2.2.2.2.2.2.2.1), (6, q38.2.2.2.2.2.2.2.2.1), (7, q38.2.2.2.2.2.2.2.2.2.1), (8, q38.2.2.2.2.2.2.2.2.2.2)])))) else (some (q38.1, q16.2.1, q16.2.2.1, q16.2.2.2.1, q16.2.2.2.2.1, q16.2.2.2.2.2.1, (us q16.2.2.2.2.2.2.1 [(4, q38.2.1), (9, q38.2.2.1)]), (us q16.2.2.2.2.2.2.2 [(0, q38.2.2.2.1), (1, q38.2.2.2.2.1), (2, q38.2.2.2.2.2.1), (3, q38.2.2.2.2.2.2.1), (5, q38.2.2.2.2.2.2.2.1), (6, q38.2.2.2.2.2.2.2.2.1), (7, q38.2.2.2.2.2.2.2.2.2.1), (8, q38.2.2.2.2.2.2.2.2.2.2)]))))))))
set_option maxHeartbeats 8000000 in
set_option maxRecDepth 100000 in
theorem c_R_takeQuantified (l : Launch) (dC : Nat → ClassId) (dI : Nat → Nat → Nat) (cy : Nat → ClassId) (ad : Nat → Nat) (sz : Nat) (N : Nat) (fo lo : Nat) (one : Int32 → (Nat → Int32) → (Nat → Int32) → Int64 → (Nat → Int32) → (Nat → Int32) → (Nat → Nat → Int64) → (Nat → Nat → Int32) → (Nat → Int32) → (Nat → Nat → Int32) → Option (Int32 × (Nat → Int32) × (Nat → Int32) × Int64 × (Nat → Int32) × (Nat → Nat → Int64) × (Nat → Int32) × (Nat → Nat → Int32))) (hone : ∀ (sz : Nat) (a1 : Int32) (iR : Nat → Int32) (iT : Nat → Int32) (wT : Int64) (tx : Nat → Int32) (iB : Nat → Int32) (lB : Nat → Nat → Int64) (aB : Nat → Nat → Int32) (iC : Nat → Int32) (aC : Nat → Nat → Int32) (q : Int32 × (Nat → Int32) × (Nat → Int32) × Int64 × (Nat → Int32) × (Nat → Nat → Int64) × (Nat → Int32) × (Nat → Nat → Int32)), one a1 iR iT wT tx iB lB aB iC aC = some q → Met l yX4_takeOne wsX4_takeOne ({ frames := fo, cells := 0, slots := 0, locals := lo } : Room) (cP (dC, dI) cy [.ref (ad 0), .int a1] (zzR ad cy (ad 3) (ad 10) iR iT wT tx iB lB aB iC aC) sz) (cQi (dC, dI) cy q.1 (zzR ad cy (ad 3) (ad 10) q.2.1 q.2.2.1 q.2.2.2.1 tx q.2.2.2.2.1 q.2.2.2.2.2.1 aB q.2.2.2.2.2.2.1 q.2.2.2.2.2.2.2) (va_A (zzR ad cy (ad 3) (ad 10) iR iT wT tx iB lB aB iC aC) sz)) 0 0 (va_A (zzR ad cy (ad 3) (ad 10) iR iT wT tx iB lB aB iC aC) sz)) (a1 : Int32) (a2 : Int32) (a3 : Int32) (iR : Nat → Int32) (iT : Nat → Int32) (wT : Int64) (tx : Nat → Int32) (iB : Nat → Int32) (lB : Nat → Nat → Int64) (aB : Nat → Nat → Int32) (iC : Nat → Int32) (aC : Nat → Nat → Int32) (q : Int32 × (Nat → Int32) × (Nat → Int32) × Int64 × (Nat → Int32) × (Nat → Nat → Int64) × (Nat → Int32) × (Nat → Nat → Int32)) (h : f_R_takeQuantified N one a1 a2 a3 iR iT wT tx iB lB aB iC aC = some q) : Met l yX4_takeQuantified wsX4_takeQuantified ({ frames := fo + 4, cells := 0, slots := 0, locals := lo + 84 } : Room) (cP (dC, dI) cy [.ref (ad 0), .int a1, .int a2, .int a3] (zzR ad cy (ad 3) (ad 10) iR iT wT tx iB lB aB iC aC) sz) (cQi (dC, dI) cy q.1 (zzR ad cy (ad 3) (ad 10) q.2.1 q.2.2.1 q.2.2.2.1 tx q.2.2.2.2.1 q.2.2.2.2.2.1 aB q.2.2.2.2.2.2.1 q.2.2.2.2.2.2.2) (va_A (zzR ad cy (ad 3) (ad 10) iR iT wT tx iB lB aB iC aC) sz)) 0 0 (va_A (zzR ad cy (ad 3) (ad 10) iR iT wT tx iB lB aB iC aC) sz) := by
  refine Met.ofW (cc := cX4_takeQuantified) (maxL := 7) (ret := (some .int)) (by decide) rfl ?_
  intro p e s m args below meth c s₁ B hml hv
  obtain ⟨hav, hsz, hP, hK, hD0, hN⟩ := hv
  have hx := B.exec
  have hb := B.bytes
  have hr := B.returns
  have hts := atoms_spec (ws := wsX4_takeQuantified) B.pre
  have hown : s.vm.findClass RX4 = some m.cls := findClass_of_methodNamed B.named
  have hlocks := B.notSynchronized
  subst hsz
  have hD := hD0.self (sz := s.heap.size)
  generalize hAe : va_A (zzR ad cy (ad 3) (ad 10) iR iT wT tx iB lB aB iC aC) s.heap.size = A at hD ⊢
  have hA : ∀ q : Nat, s.heap.size ≤ q → A q := fun q h => by rw [← hAe]; exact Or.inr h
  have hS : va_S A s.heap s.heap [] := va_S.rf
  generalize hWQ : (zzR ad cy (ad 3) (ad 10) q.2.1 q.2.2.1 q.2.2.2.1 tx q.2.2.2.2.1 q.2.2.2.2.2.1 aB q.2.2.2.2.2.2.1 q.2.2.2.2.2.2.2) = WQ
  generalize hQQ : MQ below (cQi (dC, dI) cy q.1 WQ A) args s 0 0 A = QQ
  have hl := lv_entry ([.ref (ad 0), .int a1, .int a2, .int a3] : List Value) (n := 7) (Nat.le_of_ble_eq_true rfl)
  have hfr := lg_entry_eq m ([.ref (ad 0), .int a1, .int a2, .int a3] : List Value) 7
  rw [← hav] at hfr
  rw [hfr]
  clear hfr hav
  generalize (lg_sl ([.ref (ad 0), .int a1, .int a2, .int a3] : List Value) ++ List.replicate (7 - (lg_sl ([.ref (ad 0), .int a1, .int a2, .int a3] : List Value)).length) Slot.unset).toArray = ls at hl ⊢
  have hl : lv_has ls 7 [(0, .ref (ad 0)), (1, .int a1), (2, .int a2), (3, .int a3)] := hl
  have kf34 := hts _ (List.mem_cons_of_mem _ m_fl_X4_34)
  have ki4 := (fun w h => List.mem_cons_of_mem _ (i_X4 w h) : ∀ w ∈ u_ws RX4 TX4 5, w ∈ wsX4_takeQuantified)
  refine (?_ : ∀ (H : Heap) (locs : List Loc), va_P (dC, dI) vwCl (zzR ad cy (ad 3) (ad 10) iR iT wT tx iB lB aB iC aC) H → va_D A (zzR ad cy (ad 3) (ad 10) iR iT wT tx iB lB aB iC aC) → va_S A s.heap H locs → W p l e ({ frames := fo + 4, cells := 0, slots := 0, locals := lo + 84 } : Room) s m args below meth c H locs 0 0 QQ (F0 m 0 ls [])) s.heap [] hP hD hS
  clear hP hD hS
  intro H locs hP hD hS
  unfold f_R_takeQuantified at h
  refine lv_aload_n hx hb dX4_takeQuantified_0 rfl (lv_at hl 0 rfl) ?_
  obtain ⟨q1, e1, h⟩ := g_b h
  refine callVis (cc := cX4_takeQuantified) (w1 := zzR ad cy (ad 3) (ad 10) (us iR [(3, q1.2.1), (4, q1.2.2.1)]) (us iT [(2, q1.2.2.2.1), (3, q1.2.2.2.2.1), (4, q1.2.2.2.2.2.1)]) q1.2.2.2.2.2.2.1 tx (us iB [(5, q1.2.2.2.2.2.2.2.1)]) (us lB [(4, q1.2.2.2.2.2.2.2.2)]) aB iC aC) (As := []) (rest := []) ⟨hx, hb, hml, hown, hts⟩ (c_R_takeRole l dC dI cy ad H.size N iR iT wT tx iB lB aB iC aC q1 e1) (cwV 0 hts (goodV m_ml_X4_117 m_im_X4_takeRole m_se_X4_takeRole m_in_X4 m_cd_X4_takeRole) rfl rfl rfl (by decide +kernel) ⟨(show 3 + 1 ≤ fo + 4 by omega), (show 8 + (2 + 11) + (63) ≤ lo + 84 by omega)⟩) hN hK hP hD hS hA rfl 0 rfl rfl rfl hl.1 rfl (Nat.le_of_ble_eq_true rfl) dX4_takeQuantified_1 ⟨Nat.zero_le _, Nat.zero_le _⟩ (fun H locs hP hD hS => ?_)
  refine lv_istore (lv' := [(4, .int q1.1), (0, .ref (ad 0)), (1, .int a1), (2, .int a2), (3, .int a3)]) hx hb dX4_takeQuantified_4 hl (by decide) rfl (fun ls hl => ?_)
  refine lv_iload hx hb dX4_takeQuantified_6 (lv_at hl 0 rfl) ?_
  refine lv_iconst (v := (-1)) hx hb dX4_takeQuantified_8 (by decide) ?_
  refine lv_icmp_ne (tgt := 14) hx hb dX4_takeQuantified_9 (by decide) (fun cz => ?_) (fun cz => ?_)
  · have h := g_f h cz
    refine lv_aload_n hx hb dX4_takeQuantified_14 rfl (lv_at hl 1 rfl) ?_
    refine lv_iload_n hx hb dX4_takeQuantified_15 rfl (lv_at hl 4 rfl) ?_
    obtain ⟨q16, e16, h⟩ := g_b h
    refine callVis (cc := cX4_takeQuantified) (w1 := zzR ad cy (ad 3) (ad 10) q16.2.1 q16.2.2.1 q16.2.2.2.1 tx q16.2.2.2.2.1 q16.2.2.2.2.2.1 aB q16.2.2.2.2.2.2.1 q16.2.2.2.2.2.2.2) (As := [.int a3]) (rest := []) ⟨hx, hb, hml, hown, hts⟩ (hone H.size a3 ((us iR [(3, q1.2.1), (4, q1.2.2.1)])) ((us iT [(2, q1.2.2.2.1), (3, q1.2.2.2.2.1), (4, q1.2.2.2.2.2.1)])) q1.2.2.2.2.2.2.1 tx ((us iB [(5, q1.2.2.2.2.2.2.2.1)])) ((us lB [(4, q1.2.2.2.2.2.2.2.2)])) aB iC aC q16 e16) (cwV 1 hts (goodV m_ml_X4_162 m_im_X4_takeOne m_se_X4_takeOne m_in_X4 m_cd_X4_takeOne) rfl rfl rfl (by decide +kernel) ⟨(show fo + 0 + 1 ≤ fo + 4 by omega), (show 8 + (6 + 11) + (lo + 0) ≤ lo + 84 by omega)⟩) hN hK hP hD hS hA rfl 0 rfl rfl rfl hl.1 rfl (Nat.le_of_ble_eq_true rfl) dX4_takeQuantified_16 ⟨Nat.zero_le _, Nat.zero_le _⟩ (fun H locs hP hD hS => ?_)
    refine lv_istore (lv' := [(5, .int q16.1), (4, .int q1.1), (0, .ref (ad 0)), (1, .int a1), (2, .int a2), (3, .int a3)]) hx hb dX4_takeQuantified_19 hl (by decide) rfl (fun ls hl => ?_)
    refine lv_iload hx hb dX4_takeQuantified_21 (lv_at hl 0 rfl) ?_
    refine lv_iconst (v := (-1)) hx hb dX4_takeQuantified_23 (by decide) ?_
    refine lv_icmp_ne (tgt := 29) hx hb dX4_takeQuantified_24 (by decide) (fun cz => ?_) (fun cz => ?_)
    · have h := g_f h cz
      refine lv_aload_n hx hb dX4_takeQuantified_29 rfl (lv_at hl 2 rfl) ?_
      refine va_get (D := (dC, dI)) (ci := 4) (v := .ref (ad 10)) (C := RX4) (T := TX4) (N := 5) hx hb hts ki4 hown hK hP 0 rfl rfl 2 (by decide) kf34 (fun _ h9 => h9) rfl dX4_takeQuantified_30 ?_
      refine lv_iload_n hx hb dX4_takeQuantified_33 rfl (lv_at hl 3 rfl) ?_
      refine lv_iload hx hb dX4_takeQuantified_34 (lv_at hl 0 rfl) ?_
      refine lv_iload hx hb dX4_takeQuantified_36 (lv_at hl 1 rfl) ?_
      obtain ⟨q38, e38, h⟩ := g_b h
      refine callVi (cc := cX4_takeQuantified) (ws' := zzR ad cy (ad 3) (ad 10) q16.2.1 q16.2.2.1 q16.2.2.2.1 tx q16.2.2.2.2.1 q16.2.2.2.2.2.1 aB (us q16.2.2.2.2.2.2.1 [(4, q38.2.1), (9, q38.2.2.1)]) (us q16.2.2.2.2.2.2.2 [(0, q38.2.2.2.1), (1, q38.2.2.2.2.1), (2, q38.2.2.2.2.2.1), (3, q38.2.2.2.2.2.2.1), (5, q38.2.2.2.2.2.2.2.1), (6, q38.2.2.2.2.2.2.2.2.1), (7, q38.2.2.2.2.2.2.2.2.2.1), (8, q38.2.2.2.2.2.2.2.2.2.2)])) (As := [.int a1, .int q16.1, .int q1.1]) (rest := []) ⟨hx, hb, hml, hown, hts⟩ (c_C_make l dC dI cy (fun i => ad (i + 10)) H.size N a1 q16.1 q1.1 q16.2.2.2.2.2.2.1 q16.2.2.2.2.2.2.2 q38 e38) (cwV 3 hts (goodV m_ml_X4_156 m_im_X1_make m_se_X1_make m_in_X1 m_cd_X1_make) rfl rfl rfl (by decide +kernel) ⟨(show 2 + 1 ≤ fo + 4 by omega), (show 8 + (7 + 11) + (48) ≤ lo + 84 by omega)⟩) hN hK hP hD hS hA [10, 11, 12, 13, 14, 15, 16, 17, 18] [none, none, none, none, none, none, none, none, none, none, some 0, some 1, some 2, some 3, some 4, some 5, some 6, some 7, some 8] rfl rfl rfl rfl rfl rfl 10 rfl rfl rfl hl.1 rfl (Nat.le_of_ble_eq_true rfl) dX4_takeQuantified_38 ⟨Nat.zero_le _, Nat.zero_le _⟩ (fun H locs hP hD hS => ?_)
      refine lv_istore (lv' := [(6, .int q38.1), (5, .int q16.1), (4, .int q1.1), (0, .ref (ad 0)), (1, .int a1), (2, .int a2), (3, .int a3)]) hx hb dX4_takeQuantified_41 hl (by decide) rfl (fun ls hl => ?_)
      refine lv_iload hx hb dX4_takeQuantified_43 (lv_at hl 0 rfl) ?_
      refine lv_iconst (v := (-1)) hx hb dX4_takeQuantified_45 (by decide) ?_
      refine lv_icmp_ne (tgt := 58) hx hb dX4_takeQuantified_46 (by decide) (fun cz => ?_) (fun cz => ?_)
      · have h := g_f h cz
        refine lv_iload hx hb dX4_takeQuantified_58 (lv_at hl 0 rfl) ?_
        have h' := Option.some.inj h
        rw [← hQQ]
        exact W.iret (v := q38.1) hx hb hr (fun t ht hW => ⟨⟨q38.1, (), rfl, by rw [← h'], by rw [← hWQ, ← h', ht]; exact hP, va_K.moved hW.alike hK⟩, hS.F ht⟩) hS.2.2 dX4_takeQuantified_60
      · have h := g_t h cz
        refine lv_aload_n hx hb dX4_takeQuantified_49 rfl (lv_at hl 3 rfl) ?_
        refine lv_iconst (v := 5) hx hb dX4_takeQuantified_50 (by decide) ?_
        refine lv_iload_n hx hb dX4_takeQuantified_51 rfl (lv_at hl 5 rfl) ?_
        obtain ⟨q52, e52, h⟩ := g_b h
        refine callVis (cc := cX4_takeQuantified) (w1 := zzR ad cy (ad 3) (ad 10) (us q16.2.1 [(3, q52.2.1), (4, q52.2.2)]) q16.2.2.1 q16.2.2.2.1 tx q16.2.2.2.2.1 q16.2.2.2.2.2.1 aB (us q16.2.2.2.2.2.2.1 [(4, q38.2.1), (9, q38.2.2.1)]) (us q16.2.2.2.2.2.2.2 [(0, q38.2.2.2.1), (1, q38.2.2.2.2.1), (2, q38.2.2.2.2.2.1), (3, q38.2.2.2.2.2.2.1), (5, q38.2.2.2.2.2.2.2.1), (6, q38.2.2.2.2.2.2.2.2.1), (7, q38.2.2.2.2.2.2.2.2.2.1), (8, q38.2.2.2.2.2.2.2.2.2.2)])) (As := [.int ((5 : Int32)), .int a2]) (rest := []) ⟨hx, hb, hml, hown, hts⟩ (c_R_fail l dC dI cy ad H.size ((5 : Int32)) a2 q16.2.1 q16.2.2.1 q16.2.2.2.1 tx q16.2.2.2.2.1 q16.2.2.2.2.2.1 aB ((us q16.2.2.2.2.2.2.1 [(4, q38.2.1), (9, q38.2.2.1)])) ((us q16.2.2.2.2.2.2.2 [(0, q38.2.2.2.1), (1, q38.2.2.2.2.1), (2, q38.2.2.2.2.2.1), (3, q38.2.2.2.2.2.2.1), (5, q38.2.2.2.2.2.2.2.1), (6, q38.2.2.2.2.2.2.2.2.1), (7, q38.2.2.2.2.2.2.2.2.2.1), (8, q38.2.2.2.2.2.2.2.2.2.2)])) q52 e52) (cwV 2 hts (goodV m_ml_X4_73 m_im_X4_fail m_se_X4_fail m_in_X4 m_cd_X4_fail) rfl rfl rfl (by decide +kernel) ⟨(show 0 + 1 ≤ fo + 4 by omega), (show 8 + (3 + 11) + (0) ≤ lo + 84 by omega)⟩) hN hK hP hD hS hA rfl 0 rfl rfl rfl hl.1 rfl (Nat.le_of_ble_eq_true rfl) dX4_takeQuantified_52 ⟨Nat.zero_le _, Nat.zero_le _⟩ (fun H locs hP hD hS => ?_)
        refine lv_goto (tgt := 60) hx hb dX4_takeQuantified_55 (by decide) ?_
        have h' := Option.some.inj h
        rw [← hQQ]
        exact W.iret (v := q52.1) hx hb hr (fun t ht hW => ⟨⟨q52.1, (), rfl, by rw [← h'], by rw [← hWQ, ← h', ht]; exact hP, va_K.moved hW.alike hK⟩, hS.F ht⟩) hS.2.2 dX4_takeQuantified_60
    · have h := g_t h cz
      refine lv_iconst (v := (-1)) hx hb dX4_takeQuantified_27 (by decide) ?_
      have h' := Option.some.inj h
      rw [← hQQ]
      exact W.iret (v := (-1 : Int32)) hx hb hr (fun t ht hW => ⟨⟨(-1 : Int32), (), rfl, by rw [← h'], by rw [← hWQ, ← h', ht]; exact hP, va_K.moved hW.alike hK⟩, hS.F ht⟩) hS.2.2 dX4_takeQuantified_28
  · have h := g_t h cz
    refine lv_iconst (v := (-1)) hx hb dX4_takeQuantified_12 (by decide) ?_
    have h' := Option.some.inj h
    rw [← hQQ]
    exact W.iret (v := (-1 : Int32)) hx hb hr (fun t ht hW => ⟨⟨(-1 : Int32), (), rfl, by rw [← h'], by rw [← hWQ, ← h', ht]; exact hP, va_K.moved hW.alike hK⟩, hS.F ht⟩) hS.2.2 dX4_takeQuantified_13
