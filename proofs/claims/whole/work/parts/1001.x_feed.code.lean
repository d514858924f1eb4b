def f_X_feed (N : Nat) (a1 : Int32) (a2 : Int32) (a3 : Int32) (a4 : Int32) (a5 : Int32) (iX1 : Int32) (tx : Nat → Int32) : Option (Int32 × Int32 × (Nat → Int32)) := if iX1 ≤ (1980 : Int32) then ((f_X_feedOne N a1 iX1 tx).bind fun q15 => ((f_X_feedOne N a2 q15.1 q15.2).bind fun q20 => ((f_X_feedOne N a3 q20.1 q20.2).bind fun q25 => ((f_X_feedOne N a4 q25.1 q25.2).bind fun q31 => ((f_X_feedOne N a5 q31.1 q31.2).bind fun q37 => (some (q37.1, q37.1, q37.2))))))) else (some ((-104 : Int32), iX1, tx))
set_option maxHeartbeats 8000000 in
set_option maxRecDepth 100000 in
theorem c_X_feed (l : Launch) (dC : Nat → ClassId) (dI : Nat → Nat → Nat) (cy : Nat → ClassId) (ad : Nat → Nat) (sz : Nat) (rb : Nat) (rc : Nat) (pb : Nat) (N : Nat) (a1 : Int32) (a2 : Int32) (a3 : Int32) (a4 : Int32) (a5 : Int32) (iX : Nat → Int32) (iR : Nat → Int32) (iT : Nat → Int32) (wT : Int64) (tx : Nat → Int32) (iB : Nat → Int32) (lB : Nat → Nat → Int64) (aB : Nat → Nat → Int32) (iC : Nat → Int32) (aC : Nat → Nat → Int32) (iD : Nat → Int32) (lD : Nat → Nat → Int64) (aD : Nat → Nat → Int32) (iE : Nat → Int32) (aE : Nat → Nat → Int32) (iK : Nat → Int32) (lK : Nat → Nat → Int64) (aK : Nat → Nat → Int32) (iW : Nat → Int32) (aW : Nat → Nat → Int32) (iP : Nat → Int32) (aP : Nat → Nat → Int32) (q : Int32 × Int32 × (Nat → Int32)) (h : f_X_feed N a1 a2 a3 a4 a5 (iX 1) tx = some q) : Met l yX7_feed wsX7_feed ({ frames := 1, cells := 0, slots := 0, locals := 22 } : Room) (cP (dC, dI) cy [.ref (ad 0), .int a1, .int a2, .int a3, .int a4, .int a5] (zzX ad cy rb rc (ad 4) (ad 11) pb (ad 4) (ad 20) iX iR iT wT tx iB lB aB iC aC iD lD aD iE aE iK lK aK iW aW iP aP) sz) (cQi (dC, dI) cy q.1 (zzX ad cy rb rc (ad 4) (ad 11) pb (ad 4) (ad 20) (us iX [(1, q.2.1)]) iR iT wT q.2.2 iB lB aB iC aC iD lD aD iE aE iK lK aK iW aW iP aP) (va_A (zzX ad cy rb rc (ad 4) (ad 11) pb (ad 4) (ad 20) iX iR iT wT tx iB lB aB iC aC iD lD aD iE aE iK lK aK iW aW iP aP) sz)) 0 0 (va_A (zzX ad cy rb rc (ad 4) (ad 11) pb (ad 4) (ad 20) iX iR iT wT tx iB lB aB iC aC iD lD aD iE aE iK lK aK iW aW iP aP) sz) := by
  refine Met.ofW (cc := cX7_feed) (maxL := 6) (ret := (some .int)) (by decide) rfl ?_
  intro p e s m args below meth c s₁ B hml hv
  obtain ⟨hav, hsz, hP, hK, hD0, hN⟩ := hv
  have hx := B.exec
  have hb := B.bytes
  have hr := B.returns
  have hts := atoms_spec (ws := wsX7_feed) B.pre
  have hown : s.vm.findClass RX7 = some m.cls := findClass_of_methodNamed B.named
  have hlocks := B.notSynchronized
  subst hsz
  have hD := hD0.self (sz := s.heap.size)
  generalize hAe : va_A (zzX ad cy rb rc (ad 4) (ad 11) pb (ad 4) (ad 20) iX iR iT wT tx iB lB aB iC aC iD lD aD iE aE iK lK aK iW aW iP aP) s.heap.size = A at hD ⊢
  have hA : ∀ q : Nat, s.heap.size ≤ q → A q := fun q h => by rw [← hAe]; exact Or.inr h
  have hS : va_S A s.heap s.heap [] := va_S.rf
  generalize hWQ : (zzX ad cy rb rc (ad 4) (ad 11) pb (ad 4) (ad 20) (us iX [(1, q.2.1)]) iR iT wT q.2.2 iB lB aB iC aC iD lD aD iE aE iK lK aK iW aW iP aP) = WQ
  generalize hQQ : MQ below (cQi (dC, dI) cy q.1 WQ A) args s 0 0 A = QQ
  have hl := lv_entry ([.ref (ad 0), .int a1, .int a2, .int a3, .int a4, .int a5] : List Value) (n := 6) (Nat.le_of_ble_eq_true rfl)
  have hfr := lg_entry_eq m ([.ref (ad 0), .int a1, .int a2, .int a3, .int a4, .int a5] : List Value) 6
  rw [← hav] at hfr
  rw [hfr]
  clear hfr hav
  generalize (lg_sl ([.ref (ad 0), .int a1, .int a2, .int a3, .int a4, .int a5] : List Value) ++ List.replicate (6 - (lg_sl ([.ref (ad 0), .int a1, .int a2, .int a3, .int a4, .int a5] : List Value)).length) Slot.unset).toArray = ls at hl ⊢
  have hl : lv_has ls 6 [(0, .ref (ad 0)), (1, .int a1), (2, .int a2), (3, .int a3), (4, .int a4), (5, .int a5)] := hl
  have kf55 := hts _ (List.mem_cons_of_mem _ m_fl_X7_55)
  have ki7 := (fun w h => List.mem_cons_of_mem _ (i_X7 w h) : ∀ w ∈ u_ws RX7 TX7 9, w ∈ wsX7_feed)
  refine (?_ : ∀ (H : Heap) (locs : List Loc), va_P (dC, dI) vwCl (zzX ad cy rb rc (ad 4) (ad 11) pb (ad 4) (ad 20) iX iR iT wT tx iB lB aB iC aC iD lD aD iE aE iK lK aK iW aW iP aP) H → va_D A (zzX ad cy rb rc (ad 4) (ad 11) pb (ad 4) (ad 20) iX iR iT wT tx iB lB aB iC aC iD lD aD iE aE iK lK aK iW aW iP aP) → va_S A s.heap H locs → W p l e ({ frames := 1, cells := 0, slots := 0, locals := 22 } : Room) s m args below meth c H locs 0 0 QQ (F0 m 0 ls [])) s.heap [] hP hD hS
  clear hP hD hS
  intro H locs hP hD hS
  unfold f_X_feed at h
  refine lv_aload_n hx hb dX7_feed_0 rfl (lv_at hl 0 rfl) ?_
  refine va_get (D := (dC, dI)) (ci := 7) (v := .int (iX 1)) (C := RX7) (T := TX7) (N := 9) hx hb hts ki7 hown hK hP 0 rfl rfl 1 (by decide) kf55 (fun _ h9 => h9) rfl dX7_feed_1 ?_
  refine lv_sipush (v := 1980) hx hb dX7_feed_4 (by decide) ?_
  refine lv_icmp_le (tgt := 13) hx hb dX7_feed_7 (by decide) (fun cz => ?_) (fun cz => ?_)
  · have h := g_t h cz
    refine lv_aload_n hx hb dX7_feed_13 rfl (lv_at hl 0 rfl) ?_
    refine lv_iload_n hx hb dX7_feed_14 rfl (lv_at hl 1 rfl) ?_
    obtain ⟨q15, e15, h⟩ := g_b h
    refine callVvs (cc := cX7_feed) (w1 := zzX ad cy rb rc (ad 4) (ad 11) pb (ad 4) (ad 20) (us iX [(1, q15.1)]) iR iT wT q15.2 iB lB aB iC aC iD lD aD iE aE iK lK aK iW aW iP aP) (As := [.int a1]) (rest := []) ⟨hx, hb, hml, hown, hts⟩ (c_X_feedOne l dC dI cy ad H.size rb rc pb N a1 iX iR iT wT tx iB lB aB iC aC iD lD aD iE aE iK lK aK iW aW iP aP q15 e15) (cwV 1 hts (goodV m_ml_X7_59 m_im_X7_feedOne m_se_X7_feedOne m_in_X7 m_cd_X7_feedOne) rfl rfl rfl (by decide +kernel) ⟨Nat.le_of_ble_eq_true rfl, Nat.le_of_ble_eq_true rfl⟩) hN hK hP hD hS hA rfl 0 rfl rfl rfl hl.1 rfl (Nat.le_of_ble_eq_true rfl) dX7_feed_15 ⟨Nat.zero_le _, Nat.zero_le _⟩ (fun H locs hP hD hS => ?_)
    refine lv_aload_n hx hb dX7_feed_18 rfl (lv_at hl 0 rfl) ?_
    refine lv_iload_n hx hb dX7_feed_19 rfl (lv_at hl 2 rfl) ?_
    obtain ⟨q20, e20, h⟩ := g_b h
    refine callVvs (cc := cX7_feed) (w1 := zzX ad cy rb rc (ad 4) (ad 11) pb (ad 4) (ad 20) (us iX [(1, q20.1)]) iR iT wT q20.2 iB lB aB iC aC iD lD aD iE aE iK lK aK iW aW iP aP) (As := [.int a2]) (rest := []) ⟨hx, hb, hml, hown, hts⟩ (c_X_feedOne l dC dI cy ad H.size rb rc pb N a2 ((us iX [(1, q15.1)])) iR iT wT q15.2 iB lB aB iC aC iD lD aD iE aE iK lK aK iW aW iP aP q20 e20) (cwV 1 hts (goodV m_ml_X7_59 m_im_X7_feedOne m_se_X7_feedOne m_in_X7 m_cd_X7_feedOne) rfl rfl rfl (by decide +kernel) ⟨Nat.le_of_ble_eq_true rfl, Nat.le_of_ble_eq_true rfl⟩) hN hK hP hD hS hA rfl 0 rfl rfl rfl hl.1 rfl (Nat.le_of_ble_eq_true rfl) dX7_feed_20 ⟨Nat.zero_le _, Nat.zero_le _⟩ (fun H locs hP hD hS => ?_)
    refine lv_aload_n hx hb dX7_feed_23 rfl (lv_at hl 0 rfl) ?_
    refine lv_iload_n hx hb dX7_feed_24 rfl (lv_at hl 3 rfl) ?_
    obtain ⟨q25, e25, h⟩ := g_b h
    refine callVvs (cc := cX7_feed) (w1 := zzX ad cy rb rc (ad 4) (ad 11) pb (ad 4) (ad 20) (us iX [(1, q25.1)]) iR iT wT q25.2 iB lB aB iC aC iD lD aD iE aE iK lK aK iW aW iP aP) (As := [.int a3]) (rest := []) ⟨hx, hb, hml, hown, hts⟩ (c_X_feedOne l dC dI cy ad H.size rb rc pb N a3 ((us iX [(1, q20.1)])) iR iT wT q20.2 iB lB aB iC aC iD lD aD iE aE iK lK aK iW aW iP aP q25 e25) (cwV 1 hts (goodV m_ml_X7_59 m_im_X7_feedOne m_se_X7_feedOne m_in_X7 m_cd_X7_feedOne) rfl rfl rfl (by decide +kernel) ⟨Nat.le_of_ble_eq_true rfl, Nat.le_of_ble_eq_true rfl⟩) hN hK hP hD hS hA rfl 0 rfl rfl rfl hl.1 rfl (Nat.le_of_ble_eq_true rfl) dX7_feed_25 ⟨Nat.zero_le _, Nat.zero_le _⟩ (fun H locs hP hD hS => ?_)
    refine lv_aload_n hx hb dX7_feed_28 rfl (lv_at hl 0 rfl) ?_
    refine lv_iload hx hb dX7_feed_29 (lv_at hl 4 rfl) ?_
    obtain ⟨q31, e31, h⟩ := g_b h
    refine callVvs (cc := cX7_feed) (w1 := zzX ad cy rb rc (ad 4) (ad 11) pb (ad 4) (ad 20) (us iX [(1, q31.1)]) iR iT wT q31.2 iB lB aB iC aC iD lD aD iE aE iK lK aK iW aW iP aP) (As := [.int a4]) (rest := []) ⟨hx, hb, hml, hown, hts⟩ (c_X_feedOne l dC dI cy ad H.size rb rc pb N a4 ((us iX [(1, q25.1)])) iR iT wT q25.2 iB lB aB iC aC iD lD aD iE aE iK lK aK iW aW iP aP q31 e31) (cwV 1 hts (goodV m_ml_X7_59 m_im_X7_feedOne m_se_X7_feedOne m_in_X7 m_cd_X7_feedOne) rfl rfl rfl (by decide +kernel) ⟨Nat.le_of_ble_eq_true rfl, Nat.le_of_ble_eq_true rfl⟩) hN hK hP hD hS hA rfl 0 rfl rfl rfl hl.1 rfl (Nat.le_of_ble_eq_true rfl) dX7_feed_31 ⟨Nat.zero_le _, Nat.zero_le _⟩ (fun H locs hP hD hS => ?_)
    refine lv_aload_n hx hb dX7_feed_34 rfl (lv_at hl 0 rfl) ?_
    refine lv_iload hx hb dX7_feed_35 (lv_at hl 5 rfl) ?_
    obtain ⟨q37, e37, h⟩ := g_b h
    refine callVvs (cc := cX7_feed) (w1 := zzX ad cy rb rc (ad 4) (ad 11) pb (ad 4) (ad 20) (us iX [(1, q37.1)]) iR iT wT q37.2 iB lB aB iC aC iD lD aD iE aE iK lK aK iW aW iP aP) (As := [.int a5]) (rest := []) ⟨hx, hb, hml, hown, hts⟩ (c_X_feedOne l dC dI cy ad H.size rb rc pb N a5 ((us iX [(1, q31.1)])) iR iT wT q31.2 iB lB aB iC aC iD lD aD iE aE iK lK aK iW aW iP aP q37 e37) (cwV 1 hts (goodV m_ml_X7_59 m_im_X7_feedOne m_se_X7_feedOne m_in_X7 m_cd_X7_feedOne) rfl rfl rfl (by decide +kernel) ⟨Nat.le_of_ble_eq_true rfl, Nat.le_of_ble_eq_true rfl⟩) hN hK hP hD hS hA rfl 0 rfl rfl rfl hl.1 rfl (Nat.le_of_ble_eq_true rfl) dX7_feed_37 ⟨Nat.zero_le _, Nat.zero_le _⟩ (fun H locs hP hD hS => ?_)
    refine lv_aload_n hx hb dX7_feed_40 rfl (lv_at hl 0 rfl) ?_
    refine va_get (D := (dC, dI)) (ci := 7) (v := .int q37.1) (C := RX7) (T := TX7) (N := 9) hx hb hts ki7 hown hK hP 0 rfl rfl 1 (by decide) kf55 (fun _ h9 => h9) rfl dX7_feed_41 ?_
    have h' := Option.some.inj h
    rw [← hQQ]
    exact W.iret (v := q37.1) hx hb hr (fun t ht hW => ⟨⟨q37.1, (), rfl, by rw [← h'], by rw [← hWQ, ← h', ht]; exact hP, va_K.moved hW.alike hK⟩, hS.F ht⟩) hS.2.2 dX7_feed_44
  · have h := g_f h cz
    refine lv_bipush (v := (-104)) hx hb dX7_feed_10 (by decide) ?_
    have h' := Option.some.inj h
    rw [← hQQ]
    exact W.iret (v := (-104 : Int32)) hx hb hr (fun t ht hW => ⟨⟨(-104 : Int32), (), rfl, by rw [← h'], by rw [← hWQ, ← h', ht]; exact hP, va_K.moved hW.alike hK⟩, hS.F ht⟩) hS.2.2 dX7_feed_12
