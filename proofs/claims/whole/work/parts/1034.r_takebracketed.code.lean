def f_R_takeBracketed (N : Nat) (one : Int32 → (Nat → Int32) → (Nat → Int32) → Int64 → (Nat → Int32) → (Nat → Int32) → (Nat → Nat → Int64) → (Nat → Nat → Int32) → (Nat → Int32) → (Nat → Nat → Int32) → Option (Int32 × (Nat → Int32) × (Nat → Int32) × Int64 × (Nat → Int32) × (Nat → Nat → Int64) × (Nat → Int32) × (Nat → Nat → Int32))) (a1 : Int32) (iR : Nat → Int32) (iT : Nat → Int32) (wT : Int64) (tx : Nat → Int32) (iB : Nat → Int32) (lB : Nat → Nat → Int64) (aB : Nat → Nat → Int32) (iC : Nat → Int32) (aC : Nat → Nat → Int32) : Option (Int32 × (Nat → Int32) × (Nat → Int32) × Int64 × (Nat → Int32) × (Nat → Nat → Int64) × (Nat → Int32) × (Nat → Nat → Int32)) := (f_R_takeConcept N one a1 iR iT wT tx iB lB aB iC aC).bind fun q2 => (if q2.1 = (-1 : Int32) then (some ((-1 : Int32), q2.2.1, q2.2.2.1, q2.2.2.2.1, q2.2.2.2.2.1, q2.2.2.2.2.2.1, q2.2.2.2.2.2.2.1, q2.2.2.2.2.2.2.2)) else (if q2.2.2.2.1 = (41 : Int64) then ((f_T_step N ((q2.2.2.1 1)) ((q2.2.2.1 2)) ((q2.2.2.1 3)) ((q2.2.2.1 4)) q2.2.2.2.1 tx).bind fun q36 => (some (q2.1, q2.2.1, (us q2.2.2.1 [(2, q36.1), (3, q36.2.1), (4, q36.2.2.1)]), q36.2.2.2, q2.2.2.2.2.1, q2.2.2.2.2.2.1, q2.2.2.2.2.2.2.1, q2.2.2.2.2.2.2.2))) else ((f_R_misplaced ((q2.2.1 3)) ((q2.2.1 4)) ((q2.2.2.1 3)) ((q2.2.2.1 4))).bind fun q28 => (some (q28.1, (us q2.2.1 [(3, q28.2.1), (4, q28.2.2)]), q2.2.2.1, q2.2.2.2.1, q2.2.2.2.2.1, q2.2.2.2.2.2.1, q2.2.2.2.2.2.2.1, q2.2.2.2.2.2.2.2)))))
set_option maxHeartbeats 8000000 in
set_option maxRecDepth 100000 in
theorem c_R_takeBracketed (l : Launch) (dC : Nat → ClassId) (dI : Nat → Nat → Nat) (cy : Nat → ClassId) (ad : Nat → Nat) (sz : Nat) (N : Nat) (fo lo : Nat) (one : Int32 → (Nat → Int32) → (Nat → Int32) → Int64 → (Nat → Int32) → (Nat → Int32) → (Nat → Nat → Int64) → (Nat → Nat → Int32) → (Nat → Int32) → (Nat → Nat → Int32) → Option (Int32 × (Nat → Int32) × (Nat → Int32) × Int64 × (Nat → Int32) × (Nat → Nat → Int64) × (Nat → Int32) × (Nat → Nat → Int32))) (hone : ∀ (sz : Nat) (a1 : Int32) (iR : Nat → Int32) (iT : Nat → Int32) (wT : Int64) (tx : Nat → Int32) (iB : Nat → Int32) (lB : Nat → Nat → Int64) (aB : Nat → Nat → Int32) (iC : Nat → Int32) (aC : Nat → Nat → Int32) (q : Int32 × (Nat → Int32) × (Nat → Int32) × Int64 × (Nat → Int32) × (Nat → Nat → Int64) × (Nat → Int32) × (Nat → Nat → Int32)), one a1 iR iT wT tx iB lB aB iC aC = some q → Met l yX4_takeOne wsX4_takeOne ({ frames := fo, cells := 0, slots := 0, locals := lo } : Room) (cP (dC, dI) cy [.ref (ad 0), .int a1] (zzR ad cy (ad 3) (ad 10) iR iT wT tx iB lB aB iC aC) sz) (cQi (dC, dI) cy q.1 (zzR ad cy (ad 3) (ad 10) q.2.1 q.2.2.1 q.2.2.2.1 tx q.2.2.2.2.1 q.2.2.2.2.2.1 aB q.2.2.2.2.2.2.1 q.2.2.2.2.2.2.2) (va_A (zzR ad cy (ad 3) (ad 10) iR iT wT tx iB lB aB iC aC) sz)) 0 0 (va_A (zzR ad cy (ad 3) (ad 10) iR iT wT tx iB lB aB iC aC) sz)) (a1 : Int32) (iR : Nat → Int32) (iT : Nat → Int32) (wT : Int64) (tx : Nat → Int32) (iB : Nat → Int32) (lB : Nat → Nat → Int64) (aB : Nat → Nat → Int32) (iC : Nat → Int32) (aC : Nat → Nat → Int32) (q : Int32 × (Nat → Int32) × (Nat → Int32) × Int64 × (Nat → Int32) × (Nat → Nat → Int64) × (Nat → Int32) × (Nat → Nat → Int32)) (h : f_R_takeBracketed N one a1 iR iT wT tx iB lB aB iC aC = some q) : Met l yX4_takeBracketed wsX4_takeBracketed ({ frames := fo + 5, cells := 0, slots := 0, locals := lo + 122 } : Room) (cP (dC, dI) cy [.ref (ad 0), .int a1] (zzR ad cy (ad 3) (ad 10) iR iT wT tx iB lB aB iC aC) sz) (cQi (dC, dI) cy q.1 (zzR ad cy (ad 3) (ad 10) q.2.1 q.2.2.1 q.2.2.2.1 tx q.2.2.2.2.1 q.2.2.2.2.2.1 aB q.2.2.2.2.2.2.1 q.2.2.2.2.2.2.2) (va_A (zzR ad cy (ad 3) (ad 10) iR iT wT tx iB lB aB iC aC) sz)) 0 0 (va_A (zzR ad cy (ad 3) (ad 10) iR iT wT tx iB lB aB iC aC) sz) := by
  refine Met.ofW (cc := cX4_takeBracketed) (maxL := 3) (ret := (some .int)) (by decide) rfl ?_
  intro p e s m args below meth c s₁ B hml hv
  obtain ⟨hav, hsz, hP, hK, hD0, hN⟩ := hv
  have hx := B.exec
  have hb := B.bytes
  have hr := B.returns
  have hts := atoms_spec (ws := wsX4_takeBracketed) B.pre
  have hown : s.vm.findClass RX4 = some m.cls := findClass_of_methodNamed B.named
  have hlocks := B.notSynchronized
  subst hsz
  have hD := hD0.self (sz := s.heap.size)
  generalize hAe : va_A (zzR ad cy (ad 3) (ad 10) iR iT wT tx iB lB aB iC aC) s.heap.size = A at hD ⊢
  have hA : ∀ q : Nat, s.heap.size ≤ q → A q := fun q h => by rw [← hAe]; exact Or.inr h
  have hS : va_S A s.heap s.heap [] := va_S.rf
  generalize hWQ : (zzR ad cy (ad 3) (ad 10) q.2.1 q.2.2.1 q.2.2.2.1 tx q.2.2.2.2.1 q.2.2.2.2.2.1 aB q.2.2.2.2.2.2.1 q.2.2.2.2.2.2.2) = WQ
  generalize hQQ : MQ below (cQi (dC, dI) cy q.1 WQ A) args s 0 0 A = QQ
  have hl := lv_entry ([.ref (ad 0), .int a1] : List Value) (n := 3) (Nat.le_of_ble_eq_true rfl)
  have hfr := lg_entry_eq m ([.ref (ad 0), .int a1] : List Value) 3
  rw [← hav] at hfr
  rw [hfr]
  clear hfr hav
  generalize (lg_sl ([.ref (ad 0), .int a1] : List Value) ++ List.replicate (3 - (lg_sl ([.ref (ad 0), .int a1] : List Value)).length) Slot.unset).toArray = ls at hl ⊢
  have hl : lv_has ls 3 [(0, .ref (ad 0)), (1, .int a1)] := hl
  have kf20 := hts _ (List.mem_cons_of_mem _ m_fl_X4_20)
  have ki4 := (fun w h => List.mem_cons_of_mem _ (i_X4 w h) : ∀ w ∈ u_ws RX4 TX4 5, w ∈ wsX4_takeBracketed)
  have kf48 := hts _ (List.mem_cons_of_mem _ m_fl_X4_48)
  have ki5 := (fun w h => List.mem_cons_of_mem _ (i_X5 w h) : ∀ w ∈ u_ws RX5 TX5 6, w ∈ wsX4_takeBracketed)
  have kc189 := hts _ (List.mem_cons_of_mem _ m_kl_X4_189)
  refine (?_ : ∀ (H : Heap) (locs : List Loc), va_P (dC, dI) vwCl (zzR ad cy (ad 3) (ad 10) iR iT wT tx iB lB aB iC aC) H → va_D A (zzR ad cy (ad 3) (ad 10) iR iT wT tx iB lB aB iC aC) → va_S A s.heap H locs → W p l e ({ frames := fo + 5, cells := 0, slots := 0, locals := lo + 122 } : Room) s m args below meth c H locs 0 0 QQ (F0 m 0 ls [])) s.heap [] hP hD hS
  clear hP hD hS
  intro H locs hP hD hS
  unfold f_R_takeBracketed at h
  refine lv_aload_n hx hb dX4_takeBracketed_0 rfl (lv_at hl 0 rfl) ?_
  refine lv_iload_n hx hb dX4_takeBracketed_1 rfl (lv_at hl 1 rfl) ?_
  obtain ⟨q2, e2, h⟩ := g_b h
  refine callVis (cc := cX4_takeBracketed) (w1 := zzR ad cy (ad 3) (ad 10) q2.2.1 q2.2.2.1 q2.2.2.2.1 tx q2.2.2.2.2.1 q2.2.2.2.2.2.1 aB q2.2.2.2.2.2.2.1 q2.2.2.2.2.2.2.2) (As := [.int a1]) (rest := []) ⟨hx, hb, hml, hown, hts⟩ (c_R_takeConcept l dC dI cy ad H.size N fo lo one hone a1 iR iT wT tx iB lB aB iC aC q2 e2) (cwV 1 hts (goodV m_ml_X4_97 m_im_X4_takeConcept m_se_X4_takeConcept m_in_X4 m_cd_X4_takeConcept) rfl rfl rfl (by decide +kernel) ⟨(show fo + 4 + 1 ≤ fo + 5 by omega), (show 8 + (5 + 11) + (lo + 98) ≤ lo + 122 by omega)⟩) hN hK hP hD hS hA rfl 0 rfl rfl rfl hl.1 rfl (Nat.le_of_ble_eq_true rfl) dX4_takeBracketed_2 ⟨Nat.zero_le _, Nat.zero_le _⟩ (fun H locs hP hD hS => ?_)
  refine lv_istore_n (lv' := [(2, .int q2.1), (0, .ref (ad 0)), (1, .int a1)]) hx hb dX4_takeBracketed_5 rfl hl (by decide) rfl (fun ls hl => ?_)
  refine lv_iload_n hx hb dX4_takeBracketed_6 rfl (lv_at hl 0 rfl) ?_
  refine lv_iconst (v := (-1)) hx hb dX4_takeBracketed_7 (by decide) ?_
  refine lv_icmp_ne (tgt := 13) hx hb dX4_takeBracketed_8 (by decide) (fun cz => ?_) (fun cz => ?_)
  · have h := g_f h cz
    refine lv_aload_n hx hb dX4_takeBracketed_13 rfl (lv_at hl 1 rfl) ?_
    refine va_get (D := (dC, dI)) (ci := 4) (v := .ref (ad 1)) (C := RX4) (T := TX4) (N := 5) hx hb hts ki4 hown hK hP 0 rfl rfl 0 (by decide) kf20 (fun _ h9 => h9) rfl dX4_takeBracketed_14 ?_
    refine va_get (D := (dC, dI)) (ci := 5) (v := .long q2.2.2.2.1) (C := RX5) (T := TX5) (N := 6) hx hb hts ki5 hown hK hP 1 rfl rfl 5 (by decide) kf48 (fun _ h9 => h9) rfl dX4_takeBracketed_17 ?_
    refine lv_ldc2 (v := 41) hx hb hown kc189 dX4_takeBracketed_20 ?_
    refine W.lcmp hx hb dX4_takeBracketed_23 ?_
    refine lv_if_eq (tgt := 32) hx hb dX4_takeBracketed_24 (by decide) (fun cz => ?_) (fun cz => ?_)
    · have h := g_t h (lg_cmp0.mp cz)
      refine lv_aload_n hx hb dX4_takeBracketed_32 rfl (lv_at hl 1 rfl) ?_
      refine va_get (D := (dC, dI)) (ci := 4) (v := .ref (ad 1)) (C := RX4) (T := TX4) (N := 5) hx hb hts ki4 hown hK hP 0 rfl rfl 0 (by decide) kf20 (fun _ h9 => h9) rfl dX4_takeBracketed_33 ?_
      obtain ⟨q36, e36, h⟩ := g_b h
      refine callVv (cc := cX4_takeBracketed) (ws' := zzR ad cy (ad 3) (ad 10) q2.2.1 (us q2.2.2.1 [(2, q36.1), (3, q36.2.1), (4, q36.2.2.1)]) q36.2.2.2 tx q2.2.2.2.2.1 q2.2.2.2.2.2.1 aB q2.2.2.2.2.2.2.1 q2.2.2.2.2.2.2.2) (As := []) (rest := []) ⟨hx, hb, hml, hown, hts⟩ (c_T_step l dC dI cy (fun i => ad (i + 1)) H.size N q2.2.2.1 q2.2.2.2.1 tx q36 e36) (cwV 0 hts (goodV m_ml_X4_87 m_im_X5_step m_se_X5_step m_in_X5 m_cd_X5_step) rfl rfl rfl (by decide +kernel) ⟨(show 2 + 1 ≤ fo + 5 by omega), (show 8 + (1 + 11) + (42) ≤ lo + 122 by omega)⟩) hN hK hP hD hS hA [1, 2] [none, some 0, some 1, none, none, none, none, none, none, none, none, none, none, none, none, none, none, none, none] rfl rfl rfl rfl rfl rfl 1 rfl rfl rfl hl.1 rfl (Nat.le_of_ble_eq_true rfl) dX4_takeBracketed_36 ⟨Nat.zero_le _, Nat.zero_le _⟩ (fun H locs hP hD hS => ?_)
      refine lv_iload_n hx hb dX4_takeBracketed_39 rfl (lv_at hl 0 rfl) ?_
      have h' := Option.some.inj h
      rw [← hQQ]
      exact W.iret (v := q2.1) hx hb hr (fun t ht hW => ⟨⟨q2.1, (), rfl, by rw [← h'], by rw [← hWQ, ← h', ht]; exact hP, va_K.moved hW.alike hK⟩, hS.F ht⟩) hS.2.2 dX4_takeBracketed_40
    · have h := g_f h (fun z => cz (lg_cmp0.mpr z))
      refine lv_aload_n hx hb dX4_takeBracketed_27 rfl (lv_at hl 1 rfl) ?_
      obtain ⟨q28, e28, h⟩ := g_b h
      refine callVis (cc := cX4_takeBracketed) (w1 := zzR ad cy (ad 3) (ad 10) (us q2.2.1 [(3, q28.2.1), (4, q28.2.2)]) q2.2.2.1 q2.2.2.2.1 tx q2.2.2.2.2.1 q2.2.2.2.2.2.1 aB q2.2.2.2.2.2.2.1 q2.2.2.2.2.2.2.2) (As := []) (rest := []) ⟨hx, hb, hml, hown, hts⟩ (c_R_misplaced l dC dI cy ad H.size q2.2.1 q2.2.2.1 q2.2.2.2.1 tx q2.2.2.2.2.1 q2.2.2.2.2.2.1 aB q2.2.2.2.2.2.2.1 q2.2.2.2.2.2.2.2 q28 e28) (cwV 0 hts (goodV m_ml_X4_83 m_im_X4_misplaced m_se_X4_misplaced m_in_X4 m_cd_X4_misplaced) rfl rfl rfl (by decide +kernel) ⟨(show 2 + 1 ≤ fo + 5 by omega), (show 8 + (1 + 11) + (43) ≤ lo + 122 by omega)⟩) hN hK hP hD hS hA rfl 0 rfl rfl rfl hl.1 rfl (Nat.le_of_ble_eq_true rfl) dX4_takeBracketed_28 ⟨Nat.zero_le _, Nat.zero_le _⟩ (fun H locs hP hD hS => ?_)
      have h' := Option.some.inj h
      rw [← hQQ]
      exact W.iret (v := q28.1) hx hb hr (fun t ht hW => ⟨⟨q28.1, (), rfl, by rw [← h'], by rw [← hWQ, ← h', ht]; exact hP, va_K.moved hW.alike hK⟩, hS.F ht⟩) hS.2.2 dX4_takeBracketed_31
  · have h := g_t h cz
    refine lv_iconst (v := (-1)) hx hb dX4_takeBracketed_11 (by decide) ?_
    have h' := Option.some.inj h
    rw [← hQQ]
    exact W.iret (v := (-1 : Int32)) hx hb hr (fun t ht hW => ⟨⟨(-1 : Int32), (), rfl, by rw [← h'], by rw [← hWQ, ← h', ht]; exact hP, va_K.moved hW.alike hK⟩, hS.F ht⟩) hS.2.2 dX4_takeBracketed_12
