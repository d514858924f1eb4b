def f_K_settle_trial_20 (N : Nat) (iB13 : Int32) (iC9 : Int32) (aC5 : Nat → Int32) (iK2 : Int32) (iK7 : Int32) (lK4 : Nat → Int64) (lK10 : Nat → Int64) (lK11 : Nat → Int64) (lK12 : Nat → Int64) (aK5 : Nat → Int32) (aK6 : Nat → Int32) (aK13 : Nat → Int32) (k2 : Int32 → (Nat → Int64) → (Nat → Int64) → (Nat → Int64) → (Nat → Int32) → Option (Int32 × (Nat → Int64) × (Nat → Int64) × (Nat → Int64) × (Nat → Int32))) (v2 : Int32) (v3 : Int32) (s2 : Int32) (x_lK10 : Nat → Int64) (x_lK11 : Nat → Int64) (x_lK12 : Nat → Int64) (x_aK13 : Nat → Int32) : Option (Int32 × (Nat → Int64) × (Nat → Int64) × (Nat → Int64) × (Nat → Int32)) := (f_K_goRound_trial N s2 iB13 iC9 aC5 iK2 iK7 lK4 x_lK10 x_lK11 x_lK12 aK5 aK6 x_aK13).bind fun q20 => (if q20.1 = 0 then (some ((v3 - (1 : Int32)), q20.2.1, q20.2.2.1, q20.2.2.2.1, q20.2.2.2.2)) else (k2 ((v3 + (1 : Int32))) q20.2.1 q20.2.2.1 q20.2.2.2.1 q20.2.2.2.2))
def f_K_settle_trial_2 (N : Nat) (iB13 : Int32) (iC9 : Int32) (aC5 : Nat → Int32) (iK2 : Int32) (iK7 : Int32) (lK4 : Nat → Int64) (lK10 : Nat → Int64) (lK11 : Nat → Int64) (lK12 : Nat → Int64) (aK5 : Nat → Int32) (aK6 : Nat → Int32) (aK13 : Nat → Int32) (v2 : Int32) : Nat → Int32 → (Nat → Int64) → (Nat → Int64) → (Nat → Int64) → (Nat → Int32) → Option (Int32 × (Nat → Int64) × (Nat → Int64) × (Nat → Int64) × (Nat → Int32))
  | 0, _, _, _, _, _ => none
  | n + 1, v3, x_lK10, x_lK11, x_lK12, x_aK13 => if (512 : Int32) < v3 then (some ((512 : Int32), x_lK10, x_lK11, x_lK12, x_aK13)) else (if v2 = 0 then (f_K_settle_trial_20 N iB13 iC9 aC5 iK2 iK7 lK4 lK10 lK11 lK12 aK5 aK6 aK13 (f_K_settle_trial_2 N iB13 iC9 aC5 iK2 iK7 lK4 lK10 lK11 lK12 aK5 aK6 aK13 v2 n) v2 v3 ((0 : Int32)) x_lK10 x_lK11 x_lK12 x_aK13) else (f_K_settle_trial_20 N iB13 iC9 aC5 iK2 iK7 lK4 lK10 lK11 lK12 aK5 aK6 aK13 (f_K_settle_trial_2 N iB13 iC9 aC5 iK2 iK7 lK4 lK10 lK11 lK12 aK5 aK6 aK13 v2 n) v2 v3 v3 x_lK10 x_lK11 x_lK12 x_aK13))
def f_K_settle_trial (N : Nat) (a2 : Int32) (iB13 : Int32) (iC9 : Int32) (aC5 : Nat → Int32) (iK2 : Int32) (iK7 : Int32) (lK4 : Nat → Int64) (lK10 : Nat → Int64) (lK11 : Nat → Int64) (lK12 : Nat → Int64) (aK5 : Nat → Int32) (aK6 : Nat → Int32) (aK13 : Nat → Int32) : Option (Int32 × (Nat → Int64) × (Nat → Int64) × (Nat → Int64) × (Nat → Int32)) := f_K_settle_trial_2 N iB13 iC9 aC5 iK2 iK7 lK4 lK10 lK11 lK12 aK5 aK6 aK13 a2 N ((1 : Int32)) lK10 lK11 lK12 aK13
set_option maxHeartbeats 8000000 in
set_option maxRecDepth 100000 in
theorem c_K_settle_trial (l : Launch) (dC : Nat → ClassId) (dI : Nat → Nat → Nat) (cy : Nat → ClassId) (ad : Nat → Nat) (sz : Nat) (N : Nat) (a2 : Int32) (iK : Nat → Int32) (lK : Nat → Nat → Int64) (aK : Nat → Nat → Int32) (iB : Nat → Int32) (lB : Nat → Nat → Int64) (aB : Nat → Nat → Int32) (iC : Nat → Int32) (aC : Nat → Nat → Int32) (q : Int32 × (Nat → Int64) × (Nat → Int64) × (Nat → Int64) × (Nat → Int32)) (h : f_K_settle_trial N a2 (iB 13) (iC 9) (aC 5) (iK 2) (iK 7) (lK 4) (lK 10) (lK 11) (lK 12) (aK 5) (aK 6) (aK 13) = some q) : Met l yX2_settle wsX2_settle ({ frames := 5, cells := 0, slots := 0, locals := 125 } : Room) (cP (dC, dI) cy [.ref (ad 0), .ref (ad 7), .int a2] (zzK ad cy (ad 11) (ad 18) iK lK aK iB lB aB iC aC) sz) (cQi (dC, dI) cy q.1 (zzK ad cy (ad 11) (ad 18) iK (us lK [(10, q.2.1), (11, q.2.2.1), (12, q.2.2.2.1)]) (us aK [(13, q.2.2.2.2)]) iB lB aB iC aC) (va_A (zzK ad cy (ad 11) (ad 18) iK lK aK iB lB aB iC aC) sz)) 0 0 (va_A (zzK ad cy (ad 11) (ad 18) iK lK aK iB lB aB iC aC) sz) := by
  refine Met.ofW (cc := cX2_settle) (maxL := 4) (ret := (some .int)) (by decide) rfl ?_
  intro p e s m args below meth c s₁ B hml hv
  obtain ⟨hav, hsz, hP, hK, hD0, hN⟩ := hv
  have hx := B.exec
  have hb := B.bytes
  have hr := B.returns
  have hts := atoms_spec (ws := wsX2_settle) B.pre
  have hown : s.vm.findClass RX2 = some m.cls := findClass_of_methodNamed B.named
  have hlocks := B.notSynchronized
  subst hsz
  have hD := hD0.self (sz := s.heap.size)
  generalize hAe : va_A (zzK ad cy (ad 11) (ad 18) iK lK aK iB lB aB iC aC) s.heap.size = A at hD ⊢
  have hA : ∀ q : Nat, s.heap.size ≤ q → A q := fun q h => by rw [← hAe]; exact Or.inr h
  have hS : va_S A s.heap s.heap [] := va_S.rf
  generalize hWQ : (zzK ad cy (ad 11) (ad 18) iK (us lK [(10, q.2.1), (11, q.2.2.1), (12, q.2.2.2.1)]) (us aK [(13, q.2.2.2.2)]) iB lB aB iC aC) = WQ
  generalize hQQ : MQ below (cQi (dC, dI) cy q.1 WQ A) args s 0 0 A = QQ
  have hl := lv_entry ([.ref (ad 0), .ref (ad 7), .int a2] : List Value) (n := 4) (Nat.le_of_ble_eq_true rfl)
  have hfr := lg_entry_eq m ([.ref (ad 0), .ref (ad 7), .int a2] : List Value) 4
  rw [← hav] at hfr
  rw [hfr]
  clear hfr hav
  generalize (lg_sl ([.ref (ad 0), .ref (ad 7), .int a2] : List Value) ++ List.replicate (4 - (lg_sl ([.ref (ad 0), .ref (ad 7), .int a2] : List Value)).length) Slot.unset).toArray = ls at hl ⊢
  have hl : lv_has ls 4 [(0, .ref (ad 0)), (1, .ref (ad 7)), (2, .int a2)] := hl
  refine (?_ : ∀ (H : Heap) (locs : List Loc), va_P (dC, dI) vwCl (zzK ad cy (ad 11) (ad 18) iK lK aK iB lB aB iC aC) H → va_D A (zzK ad cy (ad 11) (ad 18) iK lK aK iB lB aB iC aC) → va_S A s.heap H locs → W p l e ({ frames := 5, cells := 0, slots := 0, locals := 125 } : Room) s m args below meth c H locs 0 0 QQ (F0 m 0 ls [])) s.heap [] hP hD hS
  clear hP hD hS
  have B20 : ∀ (v2 : Int32) (v3 : Int32) (s2 : Int32) (x_lK10 : Nat → Int64) (x_lK11 : Nat → Int64) (x_lK12 : Nat → Int64) (x_aK13 : Nat → Int32) (k2 : Int32 → (Nat → Int64) → (Nat → Int64) → (Nat → Int64) → (Nat → Int32) → Option (Int32 × (Nat → Int64) × (Nat → Int64) × (Nat → Int64) × (Nat → Int32))) (hk2 : ∀ (v3' : Int32) (x_lK10' : Nat → Int64) (x_lK11' : Nat → Int64) (x_lK12' : Nat → Int64) (x_aK13' : Nat → Int32) (H : Heap) (locs : List Loc) (ls : Array Slot), k2 v3' x_lK10' x_lK11' x_lK12' x_aK13' = some q → va_P (dC, dI) vwCl (zzK ad cy (ad 11) (ad 18) iK (us lK [(10, x_lK10'), (11, x_lK11'), (12, x_lK12')]) (us aK [(13, x_aK13')]) iB lB aB iC aC) H → va_D A (zzK ad cy (ad 11) (ad 18) iK (us lK [(10, x_lK10'), (11, x_lK11'), (12, x_lK12')]) (us aK [(13, x_aK13')]) iB lB aB iC aC) → va_S A s.heap H locs → lv_has ls 4 [(0, .ref (ad 0)), (1, .ref (ad 7)), (2, .int v2), (3, .int v3')] → W p l e ({ frames := 5, cells := 0, slots := 0, locals := 125 } : Room) s m args below meth c H locs 0 0 QQ (F0 m 2 ls [])) (H : Heap) (locs : List Loc) (ls : Array Slot), f_K_settle_trial_20 N (iB 13) (iC 9) (aC 5) (iK 2) (iK 7) (lK 4) (lK 10) (lK 11) (lK 12) (aK 5) (aK 6) (aK 13) k2 v2 v3 s2 x_lK10 x_lK11 x_lK12 x_aK13 = some q → va_P (dC, dI) vwCl (zzK ad cy (ad 11) (ad 18) iK (us lK [(10, x_lK10), (11, x_lK11), (12, x_lK12)]) (us aK [(13, x_aK13)]) iB lB aB iC aC) H → va_D A (zzK ad cy (ad 11) (ad 18) iK (us lK [(10, x_lK10), (11, x_lK11), (12, x_lK12)]) (us aK [(13, x_aK13)]) iB lB aB iC aC) → va_S A s.heap H locs → lv_has ls 4 [(0, .ref (ad 0)), (1, .ref (ad 7)), (2, .int v2), (3, .int v3)] → W p l e ({ frames := 5, cells := 0, slots := 0, locals := 125 } : Room) s m args below meth c H locs 0 0 QQ (F0 m 20 ls [.int s2, .ref (ad 7), .ref (ad 0)]) := by
    intro v2 v3 s2 x_lK10 x_lK11 x_lK12 x_aK13 k2 hk2 H locs ls h hP hD hS hl
    unfold f_K_settle_trial_20 at h
    obtain ⟨q20, e20, h⟩ := g_b h
    refine callVis (cc := cX2_settle) (w1 := zzK ad cy (ad 11) (ad 18) iK (us lK [(10, q20.2.1), (11, q20.2.2.1), (12, q20.2.2.2.1)]) (us aK [(13, q20.2.2.2.2)]) iB lB aB iC aC) (As := [.ref (ad 7), .int s2]) (rest := []) ⟨hx, hb, hml, hown, hts⟩ (c_K_goRound_trial l dC dI cy ad H.size N s2 iK ((us lK [(10, x_lK10), (11, x_lK11), (12, x_lK12)])) ((us aK [(13, x_aK13)])) iB lB aB iC aC q20 e20) (cwV 2 hts (goodV m_ml_X2_163 m_im_X2_goRound m_se_X2_goRound m_in_X2 m_cd_X2_goRound) rfl rfl rfl (by decide +kernel) ⟨Nat.le_of_ble_eq_true rfl, Nat.le_of_ble_eq_true rfl⟩) hN hK hP hD hS hA rfl 0 rfl rfl rfl hl.1 rfl (Nat.le_of_ble_eq_true rfl) dX2_settle_20 ⟨Nat.zero_le _, Nat.zero_le _⟩ (fun H locs hP hD hS => ?_)
    refine lv_if_ne (tgt := 30) hx hb dX2_settle_23 (by decide) (fun cz => ?_) (fun cz => ?_)
    · have h := g_f h cz
      refine lv_iinc (v := (v3 + (1 : Int32))) (lv' := [(3, .int ((v3 + (1 : Int32)))), (0, .ref (ad 0)), (1, .ref (ad 7)), (2, .int v2)]) hx hb dX2_settle_30 hl (k := 3) rfl rfl (by decide) rfl (fun ls hl => ?_)
      refine lv_goto (tgt := 2) hx hb dX2_settle_33 (by decide) ?_
      exact hk2 ((v3 + (1 : Int32))) q20.2.1 q20.2.2.1 q20.2.2.2.1 q20.2.2.2.2 H locs ls h hP hD hS (lv_sub hl [1, 2, 3, 0] rfl)
    · have h := g_t h cz
      refine lv_iload_n hx hb dX2_settle_26 rfl (lv_at hl 3 rfl) ?_
      refine lv_iconst (v := 1) hx hb dX2_settle_27 (by decide) ?_
      refine lv_isub hx hb dX2_settle_28 ?_
      have h' := Option.some.inj h
      rw [← hQQ]
      exact W.iret (v := (v3 - (1 : Int32))) hx hb hr (fun t ht hW => ⟨⟨(v3 - (1 : Int32)), (), rfl, by rw [← h'], by rw [← hWQ, ← h', ht]; exact hP, va_K.moved hW.alike hK⟩, hS.F ht⟩) hS.2.2 dX2_settle_29
  have B2 : ∀ (n : Nat) (v2 : Int32) (v3 : Int32) (x_lK10 : Nat → Int64) (x_lK11 : Nat → Int64) (x_lK12 : Nat → Int64) (x_aK13 : Nat → Int32) (H : Heap) (locs : List Loc) (ls : Array Slot), f_K_settle_trial_2 N (iB 13) (iC 9) (aC 5) (iK 2) (iK 7) (lK 4) (lK 10) (lK 11) (lK 12) (aK 5) (aK 6) (aK 13) v2 n v3 x_lK10 x_lK11 x_lK12 x_aK13 = some q → va_P (dC, dI) vwCl (zzK ad cy (ad 11) (ad 18) iK (us lK [(10, x_lK10), (11, x_lK11), (12, x_lK12)]) (us aK [(13, x_aK13)]) iB lB aB iC aC) H → va_D A (zzK ad cy (ad 11) (ad 18) iK (us lK [(10, x_lK10), (11, x_lK11), (12, x_lK12)]) (us aK [(13, x_aK13)]) iB lB aB iC aC) → va_S A s.heap H locs → lv_has ls 4 [(0, .ref (ad 0)), (1, .ref (ad 7)), (2, .int v2), (3, .int v3)] → W p l e ({ frames := 5, cells := 0, slots := 0, locals := 125 } : Room) s m args below meth c H locs 0 0 QQ (F0 m 2 ls []) := by
    intro n
    induction n with
    | zero =>
      intro v2 v3 x_lK10 x_lK11 x_lK12 x_aK13 H locs ls h hP hD hS hl
      rw [f_K_settle_trial_2] at h
      cases h
    | succ n ih =>
      intro v2 v3 x_lK10 x_lK11 x_lK12 x_aK13 H locs ls h hP hD hS hl
      rw [f_K_settle_trial_2] at h
      refine lv_iload_n hx hb dX2_settle_2 rfl (lv_at hl 3 rfl) ?_
      refine lv_sipush (v := 512) hx hb dX2_settle_3 (by decide) ?_
      refine lv_icmp_gt (tgt := 36) hx hb dX2_settle_6 (by decide) (fun cz => ?_) (fun cz => ?_)
      · have h := g_t h cz
        refine lv_sipush (v := 512) hx hb dX2_settle_36 (by decide) ?_
        have h' := Option.some.inj h
        rw [← hQQ]
        exact W.iret (v := (512 : Int32)) hx hb hr (fun t ht hW => ⟨⟨(512 : Int32), (), rfl, by rw [← h'], by rw [← hWQ, ← h', ht]; exact hP, va_K.moved hW.alike hK⟩, hS.F ht⟩) hS.2.2 dX2_settle_39
      · have h := g_f h cz
        refine lv_aload_n hx hb dX2_settle_9 rfl (lv_at hl 0 rfl) ?_
        refine lv_aload_n hx hb dX2_settle_10 rfl (lv_at hl 1 rfl) ?_
        refine lv_iload_n hx hb dX2_settle_11 rfl (lv_at hl 2 rfl) ?_
        refine lv_if_eq (tgt := 19) hx hb dX2_settle_12 (by decide) (fun cz => ?_) (fun cz => ?_)
        · have h := g_t h cz
          refine lv_iconst (v := 0) hx hb dX2_settle_19 (by decide) ?_
          exact B20 v2 v3 ((0 : Int32)) x_lK10 x_lK11 x_lK12 x_aK13 (f_K_settle_trial_2 N (iB 13) (iC 9) (aC 5) (iK 2) (iK 7) (lK 4) (lK 10) (lK 11) (lK 12) (aK 5) (aK 6) (aK 13) v2 n) (ih v2) H locs ls h hP hD hS (lv_sub hl [0, 1, 2, 3] rfl)
        · have h := g_f h cz
          refine lv_iload_n hx hb dX2_settle_15 rfl (lv_at hl 3 rfl) ?_
          refine lv_goto (tgt := 20) hx hb dX2_settle_16 (by decide) ?_
          exact B20 v2 v3 v3 x_lK10 x_lK11 x_lK12 x_aK13 (f_K_settle_trial_2 N (iB 13) (iC 9) (aC 5) (iK 2) (iK 7) (lK 4) (lK 10) (lK 11) (lK 12) (aK 5) (aK 6) (aK 13) v2 n) (ih v2) H locs ls h hP hD hS (lv_sub hl [0, 1, 2, 3] rfl)
  intro H locs hP hD hS
  unfold f_K_settle_trial at h
  refine lv_iconst (v := 1) hx hb dX2_settle_0 (by decide) ?_
  refine lv_istore_n (lv' := [(3, .int ((1 : Int32))), (0, .ref (ad 0)), (1, .ref (ad 7)), (2, .int a2)]) hx hb dX2_settle_1 rfl hl (by decide) rfl (fun ls hl => ?_)
  exact B2 N a2 ((1 : Int32)) (lK 10) (lK 11) (lK 12) (aK 13) H locs ls h hP hD hS (lv_sub hl [1, 2, 3, 0] rfl)
