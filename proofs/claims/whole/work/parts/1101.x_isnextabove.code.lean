def f_X_isNextAbove_13 (N : Nat) (iB3 : Int32) (iC4 : Int32) (aC0 : Nat → Int32) (aC1 : Nat → Int32) (aC2 : Nat → Int32) (lK3 : Nat → Int64) (lK9 : Nat → Int64) (v1 : Int32) (v2 : Int32) : Nat → Int32 → Option Int32
  | 0, _ => none
  | n + 1, v3 => if iB3 ≤ v3 then (some (1 : Int32)) else ((f_X_isStrictlyUnder N v1 v3 iC4 aC0 aC1 aC2 lK3 lK9).bind fun q27 => (if q27 = 0 then (f_X_isNextAbove_13 N iB3 iC4 aC0 aC1 aC2 lK3 lK9 v1 v2 n ((v3 + (1 : Int32)))) else ((f_X_isStrictlyUnder N v3 v2 iC4 aC0 aC1 aC2 lK3 lK9).bind fun q36 => (if q36 = 0 then (f_X_isNextAbove_13 N iB3 iC4 aC0 aC1 aC2 lK3 lK9 v1 v2 n ((v3 + (1 : Int32)))) else (some (0 : Int32))))))
def f_X_isNextAbove (N : Nat) (a1 : Int32) (a2 : Int32) (iB3 : Int32) (iC4 : Int32) (aC0 : Nat → Int32) (aC1 : Nat → Int32) (aC2 : Nat → Int32) (lK3 : Nat → Int64) (lK9 : Nat → Int64) : Option Int32 := (f_X_isStrictlyUnder N a1 a2 iC4 aC0 aC1 aC2 lK3 lK9).bind fun q3 => (if q3 = 0 then (some (0 : Int32)) else (f_X_isNextAbove_13 N iB3 iC4 aC0 aC1 aC2 lK3 lK9 a1 a2 N ((0 : Int32))))
set_option maxHeartbeats 8000000 in
set_option maxRecDepth 100000 in
theorem c_X_isNextAbove (l : Launch) (dC : Nat → ClassId) (dI : Nat → Nat → Nat) (cy : Nat → ClassId) (ad : Nat → Nat) (sz : Nat) (rb : Nat) (rc : Nat) (pb : Nat) (N : Nat) (a1 : Int32) (a2 : Int32) (iX : Nat → Int32) (iR : Nat → Int32) (iT : Nat → Int32) (wT : Int64) (tx : Nat → Int32) (iB : Nat → Int32) (lB : Nat → Nat → Int64) (aB : Nat → Nat → Int32) (iC : Nat → Int32) (aC : Nat → Nat → Int32) (iD : Nat → Int32) (lD : Nat → Nat → Int64) (aD : Nat → Nat → Int32) (iE : Nat → Int32) (aE : Nat → Nat → Int32) (iK : Nat → Int32) (lK : Nat → Nat → Int64) (aK : Nat → Nat → Int32) (iW : Nat → Int32) (aW : Nat → Nat → Int32) (iP : Nat → Int32) (aP : Nat → Nat → Int32) (q : Int32) (h : f_X_isNextAbove N a1 a2 (iB 3) (iC 4) (aC 0) (aC 1) (aC 2) (lK 3) (lK 9) = some q) : Met l yX7_isNextAbove wsX7_isNextAbove ({ frames := 4, cells := 0, slots := 0, locals := 89 } : Room) (cP (dC, dI) cy [.ref (ad 0), .int a1, .int a2] (zzX ad cy rb rc (ad 4) (ad 11) pb (ad 4) (ad 20) iX iR iT wT tx iB lB aB iC aC iD lD aD iE aE iK lK aK iW aW iP aP) sz) (cQi (dC, dI) cy q (zzX ad cy rb rc (ad 4) (ad 11) pb (ad 4) (ad 20) iX iR iT wT tx iB lB aB iC aC iD lD aD iE aE iK lK aK iW aW iP aP) (va_A (zzX ad cy rb rc (ad 4) (ad 11) pb (ad 4) (ad 20) iX iR iT wT tx iB lB aB iC aC iD lD aD iE aE iK lK aK iW aW iP aP) sz)) 0 0 (va_A (zzX ad cy rb rc (ad 4) (ad 11) pb (ad 4) (ad 20) iX iR iT wT tx iB lB aB iC aC iD lD aD iE aE iK lK aK iW aW iP aP) sz) := by
  refine Met.ofW (cc := cX7_isNextAbove) (maxL := 4) (ret := (some .boolean)) (by decide) rfl ?_
  intro p e s m args below meth c s₁ B hml hv
  obtain ⟨hav, hsz, hP, hK, hD0, hN⟩ := hv
  have hx := B.exec
  have hb := B.bytes
  have hr := B.returns
  have hts := atoms_spec (ws := wsX7_isNextAbove) B.pre
  have hown : s.vm.findClass RX7 = some m.cls := findClass_of_methodNamed B.named
  have hlocks := B.notSynchronized
  subst hsz
  have hD := hD0.self (sz := s.heap.size)
  generalize hAe : va_A (zzX ad cy rb rc (ad 4) (ad 11) pb (ad 4) (ad 20) iX iR iT wT tx iB lB aB iC aC iD lD aD iE aE iK lK aK iW aW iP aP) s.heap.size = A at hD ⊢
  have hA : ∀ q : Nat, s.heap.size ≤ q → A q := fun q h => by rw [← hAe]; exact Or.inr h
  have hS : va_S A s.heap s.heap [] := va_S.rf
  generalize hWQ : (zzX ad cy rb rc (ad 4) (ad 11) pb (ad 4) (ad 20) iX iR iT wT tx iB lB aB iC aC iD lD aD iE aE iK lK aK iW aW iP aP) = WQ
  generalize hQQ : MQ below (cQi (dC, dI) cy q WQ A) args s 0 0 A = QQ
  have hl := lv_entry ([.ref (ad 0), .int a1, .int a2] : List Value) (n := 4) (Nat.le_of_ble_eq_true rfl)
  have hfr := lg_entry_eq m ([.ref (ad 0), .int a1, .int a2] : List Value) 4
  rw [← hav] at hfr
  rw [hfr]
  clear hfr hav
  generalize (lg_sl ([.ref (ad 0), .int a1, .int a2] : List Value) ++ List.replicate (4 - (lg_sl ([.ref (ad 0), .int a1, .int a2] : List Value)).length) Slot.unset).toArray = ls at hl ⊢
  have hl : lv_has ls 4 [(0, .ref (ad 0)), (1, .int a1), (2, .int a2)] := hl
  have kf16 := hts _ (List.mem_cons_of_mem _ m_fl_X7_16)
  have ki7 := (fun w h => List.mem_cons_of_mem _ (i_X7 w h) : ∀ w ∈ u_ws RX7 TX7 9, w ∈ wsX7_isNextAbove)
  have kf89 := hts _ (List.mem_cons_of_mem _ m_fl_X7_89)
  have ki0 := (fun w h => List.mem_cons_of_mem _ (i_X0 w h) : ∀ w ∈ u_ws RX0 TX0 15, w ∈ wsX7_isNextAbove)
  refine (?_ : ∀ (H : Heap) (locs : List Loc), va_P (dC, dI) vwCl (zzX ad cy rb rc (ad 4) (ad 11) pb (ad 4) (ad 20) iX iR iT wT tx iB lB aB iC aC iD lD aD iE aE iK lK aK iW aW iP aP) H → va_D A (zzX ad cy rb rc (ad 4) (ad 11) pb (ad 4) (ad 20) iX iR iT wT tx iB lB aB iC aC iD lD aD iE aE iK lK aK iW aW iP aP) → va_S A s.heap H locs → W p l e ({ frames := 4, cells := 0, slots := 0, locals := 89 } : Room) s m args below meth c H locs 0 0 QQ (F0 m 0 ls [])) s.heap [] hP hD hS
  clear hP hD hS
  have B13 : ∀ (n : Nat) (v1 : Int32) (v2 : Int32) (v3 : Int32) (H : Heap) (locs : List Loc) (ls : Array Slot), f_X_isNextAbove_13 N (iB 3) (iC 4) (aC 0) (aC 1) (aC 2) (lK 3) (lK 9) v1 v2 n v3 = some q → va_P (dC, dI) vwCl (zzX ad cy rb rc (ad 4) (ad 11) pb (ad 4) (ad 20) iX iR iT wT tx iB lB aB iC aC iD lD aD iE aE iK lK aK iW aW iP aP) H → va_D A (zzX ad cy rb rc (ad 4) (ad 11) pb (ad 4) (ad 20) iX iR iT wT tx iB lB aB iC aC iD lD aD iE aE iK lK aK iW aW iP aP) → va_S A s.heap H locs → lv_has ls 4 [(0, .ref (ad 0)), (1, .int v1), (2, .int v2), (3, .int v3)] → W p l e ({ frames := 4, cells := 0, slots := 0, locals := 89 } : Room) s m args below meth c H locs 0 0 QQ (F0 m 13 ls []) := by
    intro n
    induction n with
    | zero =>
      intro v1 v2 v3 H locs ls h hP hD hS hl
      rw [f_X_isNextAbove_13] at h
      cases h
    | succ n ih =>
      intro v1 v2 v3 H locs ls h hP hD hS hl
      rw [f_X_isNextAbove_13] at h
      refine lv_iload_n hx hb dX7_isNextAbove_13 rfl (lv_at hl 3 rfl) ?_
      refine lv_aload_n hx hb dX7_isNextAbove_14 rfl (lv_at hl 0 rfl) ?_
      refine va_get (D := (dC, dI)) (ci := 7) (v := .ref (ad 4)) (C := RX7) (T := TX7) (N := 9) hx hb hts ki7 hown hK hP 0 rfl rfl 3 (by decide) kf16 (fun _ h9 => h9) rfl dX7_isNextAbove_15 ?_
      refine va_get (D := (dC, dI)) (ci := 0) (v := .int (iB 3)) (C := RX0) (T := TX0) (N := 15) hx hb hts ki0 hown hK hP 4 rfl rfl 3 (by decide) kf89 (fun _ h9 => h9) rfl dX7_isNextAbove_18 ?_
      refine lv_icmp_ge (tgt := 50) hx hb dX7_isNextAbove_21 (by decide) (fun cz => ?_) (fun cz => ?_)
      · have h := g_t h cz
        refine lv_iconst (v := 1) hx hb dX7_isNextAbove_50 (by decide) ?_
        have h' := Option.some.inj h
        rw [← hQQ]
        exact W.zret (v := (1 : Int32)) hx hb hr rfl (fun t ht hW => ⟨⟨(1 : Int32), (), rfl, by rw [← h'], by rw [← hWQ, ht]; exact hP, va_K.moved hW.alike hK⟩, hS.F ht⟩) hS.2.2 dX7_isNextAbove_51
      · have h := g_f h cz
        refine lv_aload_n hx hb dX7_isNextAbove_24 rfl (lv_at hl 0 rfl) ?_
        refine lv_iload_n hx hb dX7_isNextAbove_25 rfl (lv_at hl 1 rfl) ?_
        refine lv_iload_n hx hb dX7_isNextAbove_26 rfl (lv_at hl 3 rfl) ?_
        obtain ⟨q27, e27, h⟩ := g_b h
        refine callVis (cc := cX7_isNextAbove) (w1 := zzX ad cy rb rc (ad 4) (ad 11) pb (ad 4) (ad 20) iX iR iT wT tx iB lB aB iC aC iD lD aD iE aE iK lK aK iW aW iP aP) (As := [.int v1, .int v3]) (rest := []) ⟨hx, hb, hml, hown, hts⟩ (c_X_isStrictlyUnder l dC dI cy ad H.size rb rc pb N v1 v3 iX iR iT wT tx iB lB aB iC aC iD lD aD iE aE iK lK aK iW aW iP aP q27 e27) (cwV 2 hts (goodV m_ml_X7_222 m_im_X7_isStrictlyUnder m_se_X7_isStrictlyUnder m_in_X7 m_cd_X7_isStrictlyUnder) rfl rfl rfl (by decide +kernel) ⟨Nat.le_of_ble_eq_true rfl, Nat.le_of_ble_eq_true rfl⟩) hN hK hP hD hS hA rfl 0 rfl rfl rfl hl.1 rfl (Nat.le_of_ble_eq_true rfl) dX7_isNextAbove_27 ⟨Nat.zero_le _, Nat.zero_le _⟩ (fun H locs hP hD hS => ?_)
        refine lv_if_eq (tgt := 44) hx hb dX7_isNextAbove_30 (by decide) (fun cz => ?_) (fun cz => ?_)
        · have h := g_t h cz
          refine lv_iinc (v := (v3 + (1 : Int32))) (lv' := [(3, .int ((v3 + (1 : Int32)))), (0, .ref (ad 0)), (1, .int v1), (2, .int v2)]) hx hb dX7_isNextAbove_44 hl (k := 3) rfl rfl (by decide) rfl (fun ls hl => ?_)
          refine lv_goto (tgt := 13) hx hb dX7_isNextAbove_47 (by decide) ?_
          exact ih v1 v2 ((v3 + (1 : Int32))) H locs ls h hP hD hS (lv_sub hl [1, 2, 3, 0] rfl)
        · have h := g_f h cz
          refine lv_aload_n hx hb dX7_isNextAbove_33 rfl (lv_at hl 0 rfl) ?_
          refine lv_iload_n hx hb dX7_isNextAbove_34 rfl (lv_at hl 3 rfl) ?_
          refine lv_iload_n hx hb dX7_isNextAbove_35 rfl (lv_at hl 2 rfl) ?_
          obtain ⟨q36, e36, h⟩ := g_b h
          refine callVis (cc := cX7_isNextAbove) (w1 := zzX ad cy rb rc (ad 4) (ad 11) pb (ad 4) (ad 20) iX iR iT wT tx iB lB aB iC aC iD lD aD iE aE iK lK aK iW aW iP aP) (As := [.int v3, .int v2]) (rest := []) ⟨hx, hb, hml, hown, hts⟩ (c_X_isStrictlyUnder l dC dI cy ad H.size rb rc pb N v3 v2 iX iR iT wT tx iB lB aB iC aC iD lD aD iE aE iK lK aK iW aW iP aP q36 e36) (cwV 2 hts (goodV m_ml_X7_222 m_im_X7_isStrictlyUnder m_se_X7_isStrictlyUnder m_in_X7 m_cd_X7_isStrictlyUnder) rfl rfl rfl (by decide +kernel) ⟨Nat.le_of_ble_eq_true rfl, Nat.le_of_ble_eq_true rfl⟩) hN hK hP hD hS hA rfl 0 rfl rfl rfl hl.1 rfl (Nat.le_of_ble_eq_true rfl) dX7_isNextAbove_36 ⟨Nat.zero_le _, Nat.zero_le _⟩ (fun H locs hP hD hS => ?_)
          refine lv_if_eq (tgt := 44) hx hb dX7_isNextAbove_39 (by decide) (fun cz => ?_) (fun cz => ?_)
          · have h := g_t h cz
            refine lv_iinc (v := (v3 + (1 : Int32))) (lv' := [(3, .int ((v3 + (1 : Int32)))), (0, .ref (ad 0)), (1, .int v1), (2, .int v2)]) hx hb dX7_isNextAbove_44 hl (k := 3) rfl rfl (by decide) rfl (fun ls hl => ?_)
            refine lv_goto (tgt := 13) hx hb dX7_isNextAbove_47 (by decide) ?_
            exact ih v1 v2 ((v3 + (1 : Int32))) H locs ls h hP hD hS (lv_sub hl [1, 2, 3, 0] rfl)
          · have h := g_f h cz
            refine lv_iconst (v := 0) hx hb dX7_isNextAbove_42 (by decide) ?_
            have h' := Option.some.inj h
            rw [← hQQ]
            exact W.zret (v := (0 : Int32)) hx hb hr rfl (fun t ht hW => ⟨⟨(0 : Int32), (), rfl, by rw [← h'], by rw [← hWQ, ht]; exact hP, va_K.moved hW.alike hK⟩, hS.F ht⟩) hS.2.2 dX7_isNextAbove_43
  intro H locs hP hD hS
  unfold f_X_isNextAbove at h
  refine lv_aload_n hx hb dX7_isNextAbove_0 rfl (lv_at hl 0 rfl) ?_
  refine lv_iload_n hx hb dX7_isNextAbove_1 rfl (lv_at hl 1 rfl) ?_
  refine lv_iload_n hx hb dX7_isNextAbove_2 rfl (lv_at hl 2 rfl) ?_
  obtain ⟨q3, e3, h⟩ := g_b h
  refine callVis (cc := cX7_isNextAbove) (w1 := zzX ad cy rb rc (ad 4) (ad 11) pb (ad 4) (ad 20) iX iR iT wT tx iB lB aB iC aC iD lD aD iE aE iK lK aK iW aW iP aP) (As := [.int a1, .int a2]) (rest := []) ⟨hx, hb, hml, hown, hts⟩ (c_X_isStrictlyUnder l dC dI cy ad H.size rb rc pb N a1 a2 iX iR iT wT tx iB lB aB iC aC iD lD aD iE aE iK lK aK iW aW iP aP q3 e3) (cwV 2 hts (goodV m_ml_X7_222 m_im_X7_isStrictlyUnder m_se_X7_isStrictlyUnder m_in_X7 m_cd_X7_isStrictlyUnder) rfl rfl rfl (by decide +kernel) ⟨Nat.le_of_ble_eq_true rfl, Nat.le_of_ble_eq_true rfl⟩) hN hK hP hD hS hA rfl 0 rfl rfl rfl hl.1 rfl (Nat.le_of_ble_eq_true rfl) dX7_isNextAbove_3 ⟨Nat.zero_le _, Nat.zero_le _⟩ (fun H locs hP hD hS => ?_)
  refine lv_if_ne (tgt := 11) hx hb dX7_isNextAbove_6 (by decide) (fun cz => ?_) (fun cz => ?_)
  · have h := g_f h cz
    refine lv_iconst (v := 0) hx hb dX7_isNextAbove_11 (by decide) ?_
    refine lv_istore_n (lv' := [(3, .int ((0 : Int32))), (0, .ref (ad 0)), (1, .int a1), (2, .int a2)]) hx hb dX7_isNextAbove_12 rfl hl (by decide) rfl (fun ls hl => ?_)
    exact B13 N a1 a2 ((0 : Int32)) H locs ls h hP hD hS (lv_sub hl [1, 2, 3, 0] rfl)
  · have h := g_t h cz
    refine lv_iconst (v := 0) hx hb dX7_isNextAbove_9 (by decide) ?_
    have h' := Option.some.inj h
    rw [← hQQ]
    exact W.zret (v := (0 : Int32)) hx hb hr rfl (fun t ht hW => ⟨⟨(0 : Int32), (), rfl, by rw [← h'], by rw [← hWQ, ht]; exact hP, va_K.moved hW.alike hK⟩, hS.F ht⟩) hS.2.2 dX7_isNextAbove_10
