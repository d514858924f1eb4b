def f_K_takeFair_trial_52 (N : Nat) (iB9 : Int32) (aB8 : Nat → Int32) (iK2 : Int32) (lK3 : Nat → Int64) (lK10 : Nat → Int64) (k2 : Int32 → (Nat → Int64) → Option ((Nat → Int64))) (v1 : Int32) (v3 : Int32) (x_lK10 : Nat → Int64) : Nat → Int64 → Int32 → Option ((Nat → Int64))
  | 0, _, _ => none
  | n + 1, v5, v7 => if iB9 ≤ v7 then (if v3 < 0 ∨ 8 ≤ v3.toNatClampNeg then none else (k2 ((v3 + (1 : Int32))) ((vp_updL x_lK10 v3.toNatClampNeg v5)))) else (if ((v1 >>> (v7 &&& 31)) &&& (1 : Int32)) = (1 : Int32) then ((f_B_ruleStatement v7 iB9 aB8).bind fun q83 => ((f_K_broken q83 v3 lK3).bind fun q87 => (f_K_takeFair_trial_52 N iB9 aB8 iK2 lK3 lK10 k2 v1 v3 x_lK10 n ((v5 &&& (q87 ^^^ (-1 : Int64)))) ((v7 + (1 : Int32)))))) else (f_K_takeFair_trial_52 N iB9 aB8 iK2 lK3 lK10 k2 v1 v3 x_lK10 n v5 ((v7 + (1 : Int32)))))
def f_K_takeFair_trial_2 (N : Nat) (iB9 : Int32) (aB8 : Nat → Int32) (iK2 : Int32) (lK3 : Nat → Int64) (lK10 : Nat → Int64) (v1 : Int32) : Nat → Int32 → (Nat → Int64) → Option ((Nat → Int64))
  | 0, _, _ => none
  | n + 1, v3, x_lK10 => if (8 : Int32) ≤ v3 then (some x_lK10) else (if (iK2 - ((64 : Int32) * v3)) < (64 : Int32) then (if 0 < (iK2 - ((64 : Int32) * v3)) then (f_K_takeFair_trial_52 N iB9 aB8 iK2 lK3 lK10 (f_K_takeFair_trial_2 N iB9 aB8 iK2 lK3 lK10 v1 n) v1 v3 x_lK10 N ((((1 : Int64) <<< (((iK2 - ((64 : Int32) * v3))).toInt64 &&& 63)) - (1 : Int64))) ((0 : Int32))) else (f_K_takeFair_trial_52 N iB9 aB8 iK2 lK3 lK10 (f_K_takeFair_trial_2 N iB9 aB8 iK2 lK3 lK10 v1 n) v1 v3 x_lK10 N ((0 : Int64)) ((0 : Int32)))) else (f_K_takeFair_trial_52 N iB9 aB8 iK2 lK3 lK10 (f_K_takeFair_trial_2 N iB9 aB8 iK2 lK3 lK10 v1 n) v1 v3 x_lK10 N ((-1 : Int64)) ((0 : Int32))))
def f_K_takeFair_trial (N : Nat) (a1 : Int32) (iB9 : Int32) (aB8 : Nat → Int32) (iK2 : Int32) (lK3 : Nat → Int64) (lK10 : Nat → Int64) : Option ((Nat → Int64)) := f_K_takeFair_trial_2 N iB9 aB8 iK2 lK3 lK10 a1 N ((0 : Int32)) lK10
set_option maxHeartbeats 8000000 in
set_option maxRecDepth 100000 in
theorem c_K_takeFair_trial (l : Launch) (dC : Nat → ClassId) (dI : Nat → Nat → Nat) (cy : Nat → ClassId) (ad : Nat → Nat) (sz : Nat) (N : Nat) (a1 : Int32) (iK : Nat → Int32) (lK : Nat → Nat → Int64) (aK : Nat → Nat → Int32) (iB : Nat → Int32) (lB : Nat → Nat → Int64) (aB : Nat → Nat → Int32) (iC : Nat → Int32) (aC : Nat → Nat → Int32) (q : (Nat → Int64)) (h : f_K_takeFair_trial N a1 (iB 9) (aB 8) (iK 2) (lK 3) (lK 10) = some q) : Met l yX2_takeFair wsX2_takeFair ({ frames := 2, cells := 0, slots := 0, locals := 48 } : Room) (cP (dC, dI) cy [.ref (ad 0), .int a1, .ref (ad 7)] (zzK ad cy (ad 11) (ad 18) iK lK aK iB lB aB iC aC) sz) (cQv (dC, dI) cy (zzK ad cy (ad 11) (ad 18) iK (us lK [(10, q)]) aK iB lB aB iC aC) (va_A (zzK ad cy (ad 11) (ad 18) iK lK aK iB lB aB iC aC) sz)) 0 0 (va_A (zzK ad cy (ad 11) (ad 18) iK lK aK iB lB aB iC aC) sz) := by
  refine Met.ofW (cc := cX2_takeFair) (maxL := 8) (ret := none) (by decide) rfl ?_
  intro p e s m args below meth c s₁ B hml hv
  obtain ⟨hav, hsz, hP, hK, hD0, hN⟩ := hv
  have hx := B.exec
  have hb := B.bytes
  have hr := B.returns
  have hts := atoms_spec (ws := wsX2_takeFair) B.pre
  have hown : s.vm.findClass RX2 = some m.cls := findClass_of_methodNamed B.named
  have hlocks := B.notSynchronized
  subst hsz
  have hD := hD0.self (sz := s.heap.size)
  generalize hAe : va_A (zzK ad cy (ad 11) (ad 18) iK lK aK iB lB aB iC aC) s.heap.size = A at hD ⊢
  have hA : ∀ q : Nat, s.heap.size ≤ q → A q := fun q h => by rw [← hAe]; exact Or.inr h
  have hS : va_S A s.heap s.heap [] := va_S.rf
  generalize hWQ : (zzK ad cy (ad 11) (ad 18) iK (us lK [(10, q)]) aK iB lB aB iC aC) = WQ
  generalize hQQ : MQ below (cQv (dC, dI) cy WQ A) args s 0 0 A = QQ
  have hl := lv_entry ([.ref (ad 0), .int a1, .ref (ad 7)] : List Value) (n := 8) (Nat.le_of_ble_eq_true rfl)
  have hfr := lg_entry_eq m ([.ref (ad 0), .int a1, .ref (ad 7)] : List Value) 8
  rw [← hav] at hfr
  rw [hfr]
  clear hfr hav
  generalize (lg_sl ([.ref (ad 0), .int a1, .ref (ad 7)] : List Value) ++ List.replicate (8 - (lg_sl ([.ref (ad 0), .int a1, .ref (ad 7)] : List Value)).length) Slot.unset).toArray = ls at hl ⊢
  have hl : lv_has ls 8 [(0, .ref (ad 0)), (1, .int a1), (2, .ref (ad 7))] := hl
  have kf44 := hts _ (List.mem_cons_of_mem _ m_fl_X2_44)
  have ki2 := (fun w h => List.mem_cons_of_mem _ (i_X2 w h) : ∀ w ∈ u_ws RX2 TX2 15, w ∈ wsX2_takeFair)
  have kf93 := hts _ (List.mem_cons_of_mem _ m_fl_X2_93)
  have ki0 := (fun w h => List.mem_cons_of_mem _ (i_X0 w h) : ∀ w ∈ u_ws RX0 TX0 15, w ∈ wsX2_takeFair)
  have kc88 := hts _ (List.mem_cons_of_mem _ m_kl_X2_88)
  have kf67 := hts _ (List.mem_cons_of_mem _ m_fl_X2_67)
  refine (?_ : ∀ (H : Heap) (locs : List Loc), va_P (dC, dI) vwCl (zzK ad cy (ad 11) (ad 18) iK lK aK iB lB aB iC aC) H → va_D A (zzK ad cy (ad 11) (ad 18) iK lK aK iB lB aB iC aC) → va_S A s.heap H locs → W p l e ({ frames := 2, cells := 0, slots := 0, locals := 48 } : Room) s m args below meth c H locs 0 0 QQ (F0 m 0 ls [])) s.heap [] hP hD hS
  clear hP hD hS
  have B52 : ∀ (n : Nat) (v1 : Int32) (v3 : Int32) (x_lK10 : Nat → Int64) (k2 : Int32 → (Nat → Int64) → Option ((Nat → Int64))) (hk2 : ∀ (v3' : Int32) (x_lK10' : Nat → Int64) (H : Heap) (locs : List Loc) (ls : Array Slot), k2 v3' x_lK10' = some q → va_P (dC, dI) vwCl (zzK ad cy (ad 11) (ad 18) iK (us lK [(10, x_lK10')]) aK iB lB aB iC aC) H → va_D A (zzK ad cy (ad 11) (ad 18) iK (us lK [(10, x_lK10')]) aK iB lB aB iC aC) → va_S A s.heap H locs → lv_has ls 8 [(0, .ref (ad 0)), (1, .int v1), (2, .ref (ad 7)), (3, .int v3')] → W p l e ({ frames := 2, cells := 0, slots := 0, locals := 48 } : Room) s m args below meth c H locs 0 0 QQ (F0 m 2 ls [])) (v5 : Int64) (v7 : Int32) (H : Heap) (locs : List Loc) (ls : Array Slot), f_K_takeFair_trial_52 N (iB 9) (aB 8) (iK 2) (lK 3) (lK 10) k2 v1 v3 x_lK10 n v5 v7 = some q → va_P (dC, dI) vwCl (zzK ad cy (ad 11) (ad 18) iK (us lK [(10, x_lK10)]) aK iB lB aB iC aC) H → va_D A (zzK ad cy (ad 11) (ad 18) iK (us lK [(10, x_lK10)]) aK iB lB aB iC aC) → va_S A s.heap H locs → lv_has ls 8 [(0, .ref (ad 0)), (1, .int v1), (2, .ref (ad 7)), (3, .int v3), (5, .long v5), (7, .int v7)] → W p l e ({ frames := 2, cells := 0, slots := 0, locals := 48 } : Room) s m args below meth c H locs 0 0 QQ (F0 m 52 ls []) := by
    intro n
    induction n with
    | zero =>
      intro v1 v3 x_lK10 k2 hk2 v5 v7 H locs ls h hP hD hS hl
      rw [f_K_takeFair_trial_52] at h
      cases h
    | succ n ih =>
      intro v1 v3 x_lK10 k2 hk2 v5 v7 H locs ls h hP hD hS hl
      rw [f_K_takeFair_trial_52] at h
      refine lv_iload hx hb dX2_takeFair_52 (lv_at hl 5 rfl) ?_
      refine lv_aload_n hx hb dX2_takeFair_54 rfl (lv_at hl 0 rfl) ?_
      refine va_get (D := (dC, dI)) (ci := 2) (v := .ref (ad 11)) (C := RX2) (T := TX2) (N := 15) hx hb hts ki2 hown hK hP 0 rfl rfl 0 (by decide) kf44 (fun _ h9 => h9) rfl dX2_takeFair_55 ?_
      refine va_get (D := (dC, dI)) (ci := 0) (v := .int (iB 9)) (C := RX0) (T := TX0) (N := 15) hx hb hts ki0 hown hK hP 11 rfl rfl 9 (by decide) kf93 (fun _ h9 => h9) rfl dX2_takeFair_58 ?_
      refine lv_icmp_ge (tgt := 103) hx hb dX2_takeFair_61 (by decide) (fun cz => ?_) (fun cz => ?_)
      · have h := g_t h cz
        refine lv_aload_n hx hb dX2_takeFair_103 rfl (lv_at hl 2 rfl) ?_
        refine lv_iload_n hx hb dX2_takeFair_104 rfl (lv_at hl 3 rfl) ?_
        refine lv_lload hx hb dX2_takeFair_105 (lv_at hl 4 rfl) ?_
        obtain ⟨g_22, h⟩ := g_n h
        refine va_last (f := x_lK10) hx hb hK hP hD hS 7 2 rfl rfl g_22 dX2_takeFair_107 (fun H locs hP hD hS => ?_)
        have hP : va_P (dC, dI) vwCl (zzK ad cy (ad 11) (ad 18) iK (us lK [(10, (vp_updL x_lK10 v3.toNatClampNeg v5))]) aK iB lB aB iC aC) H := Eq.mp (congrArg (fun w => va_P (dC, dI) vwCl w H) (stK_lK10 ad cy (ad 11) (ad 18) iK lK aK iB lB aB iC aC [(10, x_lK10)] ((vp_updL x_lK10 v3.toNatClampNeg v5)))) hP
        have hD : va_D A (zzK ad cy (ad 11) (ad 18) iK (us lK [(10, (vp_updL x_lK10 v3.toNatClampNeg v5))]) aK iB lB aB iC aC) := Eq.mp (congrArg (fun w => va_D A w) (stK_lK10 ad cy (ad 11) (ad 18) iK lK aK iB lB aB iC aC [(10, x_lK10)] ((vp_updL x_lK10 v3.toNatClampNeg v5)))) hD
        refine lv_iinc (v := (v3 + (1 : Int32))) (lv' := [(3, .int ((v3 + (1 : Int32)))), (0, .ref (ad 0)), (1, .int v1), (2, .ref (ad 7)), (5, .long v5), (7, .int v7)]) hx hb dX2_takeFair_108 hl (k := 3) rfl rfl (by decide) rfl (fun ls hl => ?_)
        refine lv_goto (tgt := 2) hx hb dX2_takeFair_111 (by decide) ?_
        exact hk2 ((v3 + (1 : Int32))) ((vp_updL x_lK10 v3.toNatClampNeg v5)) H locs ls h hP hD hS (lv_sub hl [1, 2, 3, 0] rfl)
      · have h := g_f h cz
        refine lv_iload_n hx hb dX2_takeFair_64 rfl (lv_at hl 1 rfl) ?_
        refine lv_iload hx hb dX2_takeFair_65 (lv_at hl 5 rfl) ?_
        refine lv_ishr hx hb dX2_takeFair_67 ?_
        refine lv_iconst (v := 1) hx hb dX2_takeFair_68 (by decide) ?_
        refine lv_iand hx hb dX2_takeFair_69 ?_
        refine lv_iconst (v := 1) hx hb dX2_takeFair_70 (by decide) ?_
        refine lv_icmp_ne (tgt := 97) hx hb dX2_takeFair_71 (by decide) (fun cz => ?_) (fun cz => ?_)
        · have h := g_f h cz
          refine lv_iinc (v := (v7 + (1 : Int32))) (lv' := [(7, .int ((v7 + (1 : Int32)))), (0, .ref (ad 0)), (1, .int v1), (2, .ref (ad 7)), (3, .int v3), (5, .long v5)]) hx hb dX2_takeFair_97 hl (k := 5) rfl rfl (by decide) rfl (fun ls hl => ?_)
          refine lv_goto (tgt := 52) hx hb dX2_takeFair_100 (by decide) ?_
          exact ih v1 v3 x_lK10 k2 hk2 v5 ((v7 + (1 : Int32))) H locs ls h hP hD hS (lv_sub hl [1, 2, 3, 4, 5, 0] rfl)
        · have h := g_t h cz
          refine lv_lload hx hb dX2_takeFair_74 (lv_at hl 4 rfl) ?_
          refine lv_aload_n hx hb dX2_takeFair_76 rfl (lv_at hl 0 rfl) ?_
          refine lv_aload_n hx hb dX2_takeFair_77 rfl (lv_at hl 0 rfl) ?_
          refine va_get (D := (dC, dI)) (ci := 2) (v := .ref (ad 11)) (C := RX2) (T := TX2) (N := 15) hx hb hts ki2 hown hK hP 0 rfl rfl 0 (by decide) kf44 (fun _ h9 => h9) rfl dX2_takeFair_78 ?_
          refine lv_iload hx hb dX2_takeFair_81 (lv_at hl 5 rfl) ?_
          obtain ⟨q83, e83, h⟩ := g_b h
          refine callVi (cc := cX2_takeFair) (ws' := zzK ad cy (ad 11) (ad 18) iK (us lK [(10, x_lK10)]) aK iB lB aB iC aC) (As := [.int v7]) (rest := [.ref (ad 0), .long v5]) ⟨hx, hb, hml, hown, hts⟩ (c_B_ruleStatement l dC dI cy (fun i => ad (i + 11)) H.size v7 iB lB aB iC aC q83 e83) (cwV 1 hts (goodV m_ml_X2_154 m_im_X0_ruleStatement m_se_X0_ruleStatement m_in_X0 m_cd_X0_ruleStatement) rfl rfl rfl (by decide +kernel) ⟨Nat.le_of_ble_eq_true rfl, Nat.le_of_ble_eq_true rfl⟩) hN hK hP hD hS hA [11, 12, 13, 14, 15, 16, 17, 18, 19, 20, 21, 22, 23, 24, 25, 26] [none, none, none, none, none, none, none, none, none, none, none, some 0, some 1, some 2, some 3, some 4, some 5, some 6, some 7, some 8, some 9, some 10, some 11, some 12, some 13, some 14, some 15] rfl rfl rfl rfl rfl rfl 11 rfl rfl rfl hl.1 rfl (Nat.le_of_ble_eq_true rfl) dX2_takeFair_83 ⟨Nat.zero_le _, Nat.zero_le _⟩ (fun H locs hP hD hS => ?_)
          refine lv_iload_n hx hb dX2_takeFair_86 rfl (lv_at hl 3 rfl) ?_
          obtain ⟨q87, e87, h⟩ := g_b h
          refine callVls (cc := cX2_takeFair) (w1 := zzK ad cy (ad 11) (ad 18) iK (us lK [(10, x_lK10)]) aK iB lB aB iC aC) (As := [.int q83, .int v3]) (rest := [.long v5]) ⟨hx, hb, hml, hown, hts⟩ (c_K_broken l dC dI cy ad H.size q83 v3 iK ((us lK [(10, x_lK10)])) aK iB lB aB iC aC q87 e87) (cwV 2 hts (goodV m_ml_X2_157 m_im_X2_broken m_se_X2_broken m_in_X2 m_cd_X2_broken) rfl rfl rfl (by decide +kernel) ⟨Nat.le_of_ble_eq_true rfl, Nat.le_of_ble_eq_true rfl⟩) hN hK hP hD hS hA rfl 0 rfl rfl rfl hl.1 rfl (Nat.le_of_ble_eq_true rfl) dX2_takeFair_87 ⟨Nat.zero_le _, Nat.zero_le _⟩ (fun H locs hP hD hS => ?_)
          refine lv_ldc2 (v := (-1)) hx hb hown kc88 dX2_takeFair_90 ?_
          refine lv_lxor hx hb dX2_takeFair_93 ?_
          refine lv_land hx hb dX2_takeFair_94 ?_
          refine lv_lstore (lv' := [(5, .long ((v5 &&& (q87 ^^^ (-1 : Int64))))), (0, .ref (ad 0)), (1, .int v1), (2, .ref (ad 7)), (3, .int v3), (7, .int v7)]) hx hb dX2_takeFair_95 hl (by decide) rfl (fun ls hl => ?_)
          refine lv_iinc (v := (v7 + (1 : Int32))) (lv' := [(7, .int ((v7 + (1 : Int32)))), (5, .long ((v5 &&& (q87 ^^^ (-1 : Int64))))), (0, .ref (ad 0)), (1, .int v1), (2, .ref (ad 7)), (3, .int v3)]) hx hb dX2_takeFair_97 hl (k := 5) rfl rfl (by decide) rfl (fun ls hl => ?_)
          refine lv_goto (tgt := 52) hx hb dX2_takeFair_100 (by decide) ?_
          exact ih v1 v3 x_lK10 k2 hk2 ((v5 &&& (q87 ^^^ (-1 : Int64)))) ((v7 + (1 : Int32))) H locs ls h hP hD hS (lv_sub hl [2, 3, 4, 5, 1, 0] rfl)
  have B2 : ∀ (n : Nat) (v1 : Int32) (v3 : Int32) (x_lK10 : Nat → Int64) (H : Heap) (locs : List Loc) (ls : Array Slot), f_K_takeFair_trial_2 N (iB 9) (aB 8) (iK 2) (lK 3) (lK 10) v1 n v3 x_lK10 = some q → va_P (dC, dI) vwCl (zzK ad cy (ad 11) (ad 18) iK (us lK [(10, x_lK10)]) aK iB lB aB iC aC) H → va_D A (zzK ad cy (ad 11) (ad 18) iK (us lK [(10, x_lK10)]) aK iB lB aB iC aC) → va_S A s.heap H locs → lv_has ls 8 [(0, .ref (ad 0)), (1, .int v1), (2, .ref (ad 7)), (3, .int v3)] → W p l e ({ frames := 2, cells := 0, slots := 0, locals := 48 } : Room) s m args below meth c H locs 0 0 QQ (F0 m 2 ls []) := by
    intro n
    induction n with
    | zero =>
      intro v1 v3 x_lK10 H locs ls h hP hD hS hl
      rw [f_K_takeFair_trial_2] at h
      cases h
    | succ n ih =>
      intro v1 v3 x_lK10 H locs ls h hP hD hS hl
      rw [f_K_takeFair_trial_2] at h
      refine lv_iload_n hx hb dX2_takeFair_2 rfl (lv_at hl 3 rfl) ?_
      refine lv_bipush (v := 8) hx hb dX2_takeFair_3 (by decide) ?_
      refine lv_icmp_ge (tgt := 114) hx hb dX2_takeFair_5 (by decide) (fun cz => ?_) (fun cz => ?_)
      · have h := g_t h cz
        have h' := Option.some.inj h
        rw [← hQQ]
        exact W.vret hx hb hr (fun t ht hW => ⟨⟨(), rfl, trivial, by rw [← hWQ, ← h', ht]; exact hP, va_K.moved hW.alike hK⟩, hS.F ht⟩) hS.2.2 dX2_takeFair_114
      · have h := g_f h cz
        refine lv_aload_n hx hb dX2_takeFair_8 rfl (lv_at hl 0 rfl) ?_
        refine va_get (D := (dC, dI)) (ci := 2) (v := .int (iK 2)) (C := RX2) (T := TX2) (N := 15) hx hb hts ki2 hown hK hP 0 rfl rfl 2 (by decide) kf67 (fun _ h9 => h9) rfl dX2_takeFair_9 ?_
        refine lv_bipush (v := 64) hx hb dX2_takeFair_12 (by decide) ?_
        refine lv_iload_n hx hb dX2_takeFair_14 rfl (lv_at hl 3 rfl) ?_
        refine lv_imul hx hb dX2_takeFair_15 ?_
        refine lv_isub hx hb dX2_takeFair_16 ?_
        refine lv_istore (lv' := [(4, .int (((iK 2) - ((64 : Int32) * v3)))), (0, .ref (ad 0)), (1, .int v1), (2, .ref (ad 7)), (3, .int v3)]) hx hb dX2_takeFair_17 hl (by decide) rfl (fun ls hl => ?_)
        refine lv_iload hx hb dX2_takeFair_19 (lv_at hl 0 rfl) ?_
        refine lv_bipush (v := 64) hx hb dX2_takeFair_21 (by decide) ?_
        refine lv_icmp_lt (tgt := 32) hx hb dX2_takeFair_23 (by decide) (fun cz => ?_) (fun cz => ?_)
        · have h := g_t h cz
          refine lv_iload hx hb dX2_takeFair_32 (lv_at hl 0 rfl) ?_
          refine lv_if_gt (tgt := 41) hx hb dX2_takeFair_34 (by decide) (fun cz => ?_) (fun cz => ?_)
          · have h := g_t h cz
            refine lv_lconst (v := 1) hx hb dX2_takeFair_41 (by decide) ?_
            refine lv_iload hx hb dX2_takeFair_42 (lv_at hl 0 rfl) ?_
            refine lv_lshl (v := ((1 : Int64) <<< ((((iK 2) - ((64 : Int32) * v3))).toInt64 &&& 63))) hx hb dX2_takeFair_44 rfl ?_
            refine lv_lconst (v := 1) hx hb dX2_takeFair_45 (by decide) ?_
            refine lv_lsub hx hb dX2_takeFair_46 ?_
            refine lv_lstore (lv' := [(5, .long ((((1 : Int64) <<< ((((iK 2) - ((64 : Int32) * v3))).toInt64 &&& 63)) - (1 : Int64)))), (4, .int (((iK 2) - ((64 : Int32) * v3)))), (0, .ref (ad 0)), (1, .int v1), (2, .ref (ad 7)), (3, .int v3)]) hx hb dX2_takeFair_47 hl (by decide) rfl (fun ls hl => ?_)
            refine lv_iconst (v := 0) hx hb dX2_takeFair_49 (by decide) ?_
            refine lv_istore (lv' := [(7, .int ((0 : Int32))), (5, .long ((((1 : Int64) <<< ((((iK 2) - ((64 : Int32) * v3))).toInt64 &&& 63)) - (1 : Int64)))), (4, .int (((iK 2) - ((64 : Int32) * v3)))), (0, .ref (ad 0)), (1, .int v1), (2, .ref (ad 7)), (3, .int v3)]) hx hb dX2_takeFair_50 hl (by decide) rfl (fun ls hl => ?_)
            exact B52 N v1 v3 x_lK10 (f_K_takeFair_trial_2 N (iB 9) (aB 8) (iK 2) (lK 3) (lK 10) v1 n) (ih v1) ((((1 : Int64) <<< ((((iK 2) - ((64 : Int32) * v3))).toInt64 &&& 63)) - (1 : Int64))) ((0 : Int32)) H locs ls h hP hD hS (lv_sub hl [3, 4, 5, 6, 1, 0] rfl)
          · have h := g_f h cz
            refine lv_lconst (v := 0) hx hb dX2_takeFair_37 (by decide) ?_
            refine lv_goto (tgt := 47) hx hb dX2_takeFair_38 (by decide) ?_
            refine lv_lstore (lv' := [(5, .long ((0 : Int64))), (4, .int (((iK 2) - ((64 : Int32) * v3)))), (0, .ref (ad 0)), (1, .int v1), (2, .ref (ad 7)), (3, .int v3)]) hx hb dX2_takeFair_47 hl (by decide) rfl (fun ls hl => ?_)
            refine lv_iconst (v := 0) hx hb dX2_takeFair_49 (by decide) ?_
            refine lv_istore (lv' := [(7, .int ((0 : Int32))), (5, .long ((0 : Int64))), (4, .int (((iK 2) - ((64 : Int32) * v3)))), (0, .ref (ad 0)), (1, .int v1), (2, .ref (ad 7)), (3, .int v3)]) hx hb dX2_takeFair_50 hl (by decide) rfl (fun ls hl => ?_)
            exact B52 N v1 v3 x_lK10 (f_K_takeFair_trial_2 N (iB 9) (aB 8) (iK 2) (lK 3) (lK 10) v1 n) (ih v1) ((0 : Int64)) ((0 : Int32)) H locs ls h hP hD hS (lv_sub hl [3, 4, 5, 6, 1, 0] rfl)
        · have h := g_f h cz
          refine lv_ldc2 (v := (-1)) hx hb hown kc88 dX2_takeFair_26 ?_
          refine lv_goto (tgt := 47) hx hb dX2_takeFair_29 (by decide) ?_
          refine lv_lstore (lv' := [(5, .long ((-1 : Int64))), (4, .int (((iK 2) - ((64 : Int32) * v3)))), (0, .ref (ad 0)), (1, .int v1), (2, .ref (ad 7)), (3, .int v3)]) hx hb dX2_takeFair_47 hl (by decide) rfl (fun ls hl => ?_)
          refine lv_iconst (v := 0) hx hb dX2_takeFair_49 (by decide) ?_
          refine lv_istore (lv' := [(7, .int ((0 : Int32))), (5, .long ((-1 : Int64))), (4, .int (((iK 2) - ((64 : Int32) * v3)))), (0, .ref (ad 0)), (1, .int v1), (2, .ref (ad 7)), (3, .int v3)]) hx hb dX2_takeFair_50 hl (by decide) rfl (fun ls hl => ?_)
          exact B52 N v1 v3 x_lK10 (f_K_takeFair_trial_2 N (iB 9) (aB 8) (iK 2) (lK 3) (lK 10) v1 n) (ih v1) ((-1 : Int64)) ((0 : Int32)) H locs ls h hP hD hS (lv_sub hl [3, 4, 5, 6, 1, 0] rfl)
  intro H locs hP hD hS
  unfold f_K_takeFair_trial at h
  refine lv_iconst (v := 0) hx hb dX2_takeFair_0 (by decide) ?_
  refine lv_istore_n (lv' := [(3, .int ((0 : Int32))), (0, .ref (ad 0)), (1, .int a1), (2, .ref (ad 7))]) hx hb dX2_takeFair_1 rfl hl (by decide) rfl (fun ls hl => ?_)
  exact B2 N a1 ((0 : Int32)) (lK 10) H locs ls h hP hD hS (lv_sub hl [1, 2, 3, 0] rfl)
