def f_R_misplaced_16 (iR3 : Int32) (iR4 : Int32) (iT3 : Int32) (iT4 : Int32) (s1 : Int32) : Option (Int32 × Int32 × Int32) := (f_R_failHere s1 iR3 iR4 iT3).bind fun q16 => (some (q16.1, q16.2.1, q16.2.2))
def f_R_misplaced (iR3 : Int32) (iR4 : Int32) (iT3 : Int32) (iT4 : Int32) : Option (Int32 × Int32 × Int32) := if iT4 = 0 then (f_R_misplaced_16 iR3 iR4 iT3 iT4 ((1 : Int32))) else (f_R_misplaced_16 iR3 iR4 iT3 iT4 ((2 : Int32)))
set_option maxHeartbeats 8000000 in
set_option maxRecDepth 100000 in
theorem c_R_misplaced (l : Launch) (dC : Nat → ClassId) (dI : Nat → Nat → Nat) (cy : Nat → ClassId) (ad : Nat → Nat) (sz : Nat) (iR : Nat → Int32) (iT : Nat → Int32) (wT : Int64) (tx : Nat → Int32) (iB : Nat → Int32) (lB : Nat → Nat → Int64) (aB : Nat → Nat → Int32) (iC : Nat → Int32) (aC : Nat → Nat → Int32) (q : Int32 × Int32 × Int32) (h : f_R_misplaced (iR 3) (iR 4) (iT 3) (iT 4) = some q) : Met l yX4_misplaced wsX4_misplaced ({ frames := 2, cells := 0, slots := 0, locals := 43 } : Room) (cP (dC, dI) cy [.ref (ad 0)] (zzR ad cy (ad 3) (ad 10) iR iT wT tx iB lB aB iC aC) sz) (cQi (dC, dI) cy q.1 (zzR ad cy (ad 3) (ad 10) (us iR [(3, q.2.1), (4, q.2.2)]) iT wT tx iB lB aB iC aC) (va_A (zzR ad cy (ad 3) (ad 10) iR iT wT tx iB lB aB iC aC) sz)) 0 0 (va_A (zzR ad cy (ad 3) (ad 10) iR iT wT tx iB lB aB iC aC) sz) := by
  refine Met.ofW (cc := cX4_misplaced) (maxL := 1) (ret := (some .int)) (by decide) rfl ?_
  intro p e s m args below meth c s₁ B hml hv
  obtain ⟨hav, hsz, hP, hK, hD0, hN⟩ := hv
  have hx := B.exec
  have hb := B.bytes
  have hr := B.returns
  have hts := atoms_spec (ws := wsX4_misplaced) B.pre
  have hown : s.vm.findClass RX4 = some m.cls := findClass_of_methodNamed B.named
  have hlocks := B.notSynchronized
  subst hsz
  have hD := hD0.self (sz := s.heap.size)
  generalize hAe : va_A (zzR ad cy (ad 3) (ad 10) iR iT wT tx iB lB aB iC aC) s.heap.size = A at hD ⊢
  have hA : ∀ q : Nat, s.heap.size ≤ q → A q := fun q h => by rw [← hAe]; exact Or.inr h
  have hS : va_S A s.heap s.heap [] := va_S.rf
  generalize hWQ : (zzR ad cy (ad 3) (ad 10) (us iR [(3, q.2.1), (4, q.2.2)]) iT wT tx iB lB aB iC aC) = WQ
  generalize hQQ : MQ below (cQi (dC, dI) cy q.1 WQ A) args s 0 0 A = QQ
  have hl := lv_entry ([.ref (ad 0)] : List Value) (n := 1) (Nat.le_of_ble_eq_true rfl)
  have hfr := lg_entry_eq m ([.ref (ad 0)] : List Value) 1
  rw [← hav] at hfr
  rw [hfr]
  clear hfr hav
  generalize (lg_sl ([.ref (ad 0)] : List Value) ++ List.replicate (1 - (lg_sl ([.ref (ad 0)] : List Value)).length) Slot.unset).toArray = ls at hl ⊢
  have hl : lv_has ls 1 [(0, .ref (ad 0))] := hl
  have kf20 := hts _ (List.mem_cons_of_mem _ m_fl_X4_20)
  have ki4 := (fun w h => List.mem_cons_of_mem _ (i_X4 w h) : ∀ w ∈ u_ws RX4 TX4 5, w ∈ wsX4_misplaced)
  have kf45 := hts _ (List.mem_cons_of_mem _ m_fl_X4_45)
  have ki5 := (fun w h => List.mem_cons_of_mem _ (i_X5 w h) : ∀ w ∈ u_ws RX5 TX5 6, w ∈ wsX4_misplaced)
  refine (?_ : ∀ (H : Heap) (locs : List Loc), va_P (dC, dI) vwCl (zzR ad cy (ad 3) (ad 10) iR iT wT tx iB lB aB iC aC) H → va_D A (zzR ad cy (ad 3) (ad 10) iR iT wT tx iB lB aB iC aC) → va_S A s.heap H locs → W p l e ({ frames := 2, cells := 0, slots := 0, locals := 43 } : Room) s m args below meth c H locs 0 0 QQ (F0 m 0 ls [])) s.heap [] hP hD hS
  clear hP hD hS
  have B16 : ∀ (s1 : Int32) (H : Heap) (locs : List Loc) (ls : Array Slot), f_R_misplaced_16 (iR 3) (iR 4) (iT 3) (iT 4) s1 = some q → va_P (dC, dI) vwCl (zzR ad cy (ad 3) (ad 10) iR iT wT tx iB lB aB iC aC) H → va_D A (zzR ad cy (ad 3) (ad 10) iR iT wT tx iB lB aB iC aC) → va_S A s.heap H locs → lv_has ls 1 [] → W p l e ({ frames := 2, cells := 0, slots := 0, locals := 43 } : Room) s m args below meth c H locs 0 0 QQ (F0 m 16 ls [.int s1, .ref (ad 0)]) := by
    intro s1 H locs ls h hP hD hS hl
    unfold f_R_misplaced_16 at h
    obtain ⟨q16, e16, h⟩ := g_b h
    refine callVis (cc := cX4_misplaced) (w1 := zzR ad cy (ad 3) (ad 10) (us iR [(3, q16.2.1), (4, q16.2.2)]) iT wT tx iB lB aB iC aC) (As := [.int s1]) (rest := []) ⟨hx, hb, hml, hown, hts⟩ (c_R_failHere l dC dI cy ad H.size s1 iR iT wT tx iB lB aB iC aC q16 e16) (cwV 1 hts (goodV m_ml_X4_77 m_im_X4_failHere m_se_X4_failHere m_in_X4 m_cd_X4_failHere) rfl rfl rfl (by decide +kernel) ⟨Nat.le_of_ble_eq_true rfl, Nat.le_of_ble_eq_true rfl⟩) hN hK hP hD hS hA rfl 0 rfl rfl rfl hl.1 rfl (Nat.le_of_ble_eq_true rfl) dX4_misplaced_16 ⟨Nat.zero_le _, Nat.zero_le _⟩ (fun H locs hP hD hS => ?_)
    have h' := Option.some.inj h
    rw [← hQQ]
    exact W.iret (v := q16.1) hx hb hr (fun t ht hW => ⟨⟨q16.1, (), rfl, by rw [← h'], by rw [← hWQ, ← h', ht]; exact hP, va_K.moved hW.alike hK⟩, hS.F ht⟩) hS.2.2 dX4_misplaced_19
  intro H locs hP hD hS
  unfold f_R_misplaced at h
  refine lv_aload_n hx hb dX4_misplaced_0 rfl (lv_at hl 0 rfl) ?_
  refine lv_aload_n hx hb dX4_misplaced_1 rfl (lv_at hl 0 rfl) ?_
  refine va_get (D := (dC, dI)) (ci := 4) (v := .ref (ad 1)) (C := RX4) (T := TX4) (N := 5) hx hb hts ki4 hown hK hP 0 rfl rfl 0 (by decide) kf20 (fun _ h9 => h9) rfl dX4_misplaced_2 ?_
  refine va_get (D := (dC, dI)) (ci := 5) (v := .int (iT 4)) (C := RX5) (T := TX5) (N := 6) hx hb hts ki5 hown hK hP 1 rfl rfl 4 (by decide) kf45 (fun _ h9 => h9) rfl dX4_misplaced_5 ?_
  refine lv_if_ne (tgt := 15) hx hb dX4_misplaced_8 (by decide) (fun cz => ?_) (fun cz => ?_)
  · have h := g_f h cz
    refine lv_iconst (v := 2) hx hb dX4_misplaced_15 (by decide) ?_
    exact B16 ((2 : Int32)) H locs ls h hP hD hS (lv_sub hl [] rfl)
  · have h := g_t h cz
    refine lv_iconst (v := 1) hx hb dX4_misplaced_11 (by decide) ?_
    refine lv_goto (tgt := 16) hx hb dX4_misplaced_12 (by decide) ?_
    exact B16 ((1 : Int32)) H locs ls h hP hD hS (lv_sub hl [] rfl)
