def f_K_isMet_39 (N : Nat) (iB13 : Int32) (iC9 : Int32) (aC5 : Nat → Int32) (lK4 : Nat → Int64) (lK11 : Nat → Int64) (aK5 : Nat → Int32) (aK6 : Nat → Int32) (k2 : Int32 → Option Int32) (v1 : Int32) (v2 : Int32) (s0 : Int32) : Option Int32 := if s0 = 0 then (k2 ((v2 + (1 : Int32)))) else ((f_K_leastMeeting_before N v1 v2 iB13 iC9 aC5 lK4 lK11 aK5 aK6).bind fun q51 => (if q51 = (-1 : Int32) then (some (0 : Int32)) else (k2 ((v2 + (1 : Int32))))))
def f_K_isMet_2 (N : Nat) (iB13 : Int32) (iC9 : Int32) (aC5 : Nat → Int32) (lK4 : Nat → Int64) (lK11 : Nat → Int64) (aK5 : Nat → Int32) (aK6 : Nat → Int32) (v1 : Int32) : Nat → Int32 → Option Int32
  | 0, _ => none
  | n + 1, v2 => if iC9 ≤ v2 then (some (1 : Int32)) else (if ((v1 >>> (v2 &&& 31)) &&& (1 : Int32)) = (1 : Int32) then ((f_C_roleOfAtom v2 iC9 aC5).bind fun q27 => (if q27 = (-1 : Int32) then (f_K_isMet_39 N iB13 iC9 aC5 lK4 lK11 aK5 aK6 (f_K_isMet_2 N iB13 iC9 aC5 lK4 lK11 aK5 aK6 v1 n) v1 v2 ((0 : Int32))) else (f_K_isMet_39 N iB13 iC9 aC5 lK4 lK11 aK5 aK6 (f_K_isMet_2 N iB13 iC9 aC5 lK4 lK11 aK5 aK6 v1 n) v1 v2 ((1 : Int32))))) else (f_K_isMet_39 N iB13 iC9 aC5 lK4 lK11 aK5 aK6 (f_K_isMet_2 N iB13 iC9 aC5 lK4 lK11 aK5 aK6 v1 n) v1 v2 ((0 : Int32))))
def f_K_isMet (N : Nat) (a1 : Int32) (iB13 : Int32) (iC9 : Int32) (aC5 : Nat → Int32) (lK4 : Nat → Int64) (lK11 : Nat → Int64) (aK5 : Nat → Int32) (aK6 : Nat → Int32) : Option Int32 := f_K_isMet_2 N iB13 iC9 aC5 lK4 lK11 aK5 aK6 a1 N ((0 : Int32))
set_option maxHeartbeats 8000000 in
set_option maxRecDepth 100000 in
theorem c_K_isMet (l : Launch) (dC : Nat → ClassId) (dI : Nat → Nat → Nat) (cy : Nat → ClassId) (ad : Nat → Nat) (sz : Nat) (N : Nat) (a1 : Int32) (iK : Nat → Int32) (lK : Nat → Nat → Int64) (aK : Nat → Nat → Int32) (iB : Nat → Int32) (lB : Nat → Nat → Int64) (aB : Nat → Nat → Int32) (iC : Nat → Int32) (aC : Nat → Nat → Int32) (q : Int32) (h : f_K_isMet N a1 (iB 13) (iC 9) (aC 5) (lK 4) (lK 11) (aK 5) (aK 6) = some q) : Met l yX2_isMet wsX2_isMet ({ frames := 3, cells := 0, slots := 0, locals := 72 } : Room) (cP (dC, dI) cy [.ref (ad 0), .int a1] (zzK ad cy (ad 11) (ad 18) iK lK aK iB lB aB iC aC) sz) (cQi (dC, dI) cy q (zzK ad cy (ad 11) (ad 18) iK lK aK iB lB aB iC aC) (va_A (zzK ad cy (ad 11) (ad 18) iK lK aK iB lB aB iC aC) sz)) 0 0 (va_A (zzK ad cy (ad 11) (ad 18) iK lK aK iB lB aB iC aC) sz) := by
  refine Met.ofW (cc := cX2_isMet) (maxL := 4) (ret := (some .boolean)) (by decide) rfl ?_
  intro p e s m args below meth c s₁ B hml hv
  obtain ⟨hav, hsz, hP, hK, hD0, hN⟩ := hv
  have hx := B.exec
  have hb := B.bytes
  have hr := B.returns
  have hts := atoms_spec (ws := wsX2_isMet) B.pre
  have hown : s.vm.findClass RX2 = some m.cls := findClass_of_methodNamed B.named
  have hlocks := B.notSynchronized
  subst hsz
  have hD := hD0.self (sz := s.heap.size)
  generalize hAe : va_A (zzK ad cy (ad 11) (ad 18) iK lK aK iB lB aB iC aC) s.heap.size = A at hD ⊢
  have hA : ∀ q : Nat, s.heap.size ≤ q → A q := fun q h => by rw [← hAe]; exact Or.inr h
  have hS : va_S A s.heap s.heap [] := va_S.rf
  generalize hWQ : (zzK ad cy (ad 11) (ad 18) iK lK aK iB lB aB iC aC) = WQ
  generalize hQQ : MQ below (cQi (dC, dI) cy q WQ A) args s 0 0 A = QQ
  have hl := lv_entry ([.ref (ad 0), .int a1] : List Value) (n := 4) (Nat.le_of_ble_eq_true rfl)
  have hfr := lg_entry_eq m ([.ref (ad 0), .int a1] : List Value) 4
  rw [← hav] at hfr
  rw [hfr]
  clear hfr hav
  generalize (lg_sl ([.ref (ad 0), .int a1] : List Value) ++ List.replicate (4 - (lg_sl ([.ref (ad 0), .int a1] : List Value)).length) Slot.unset).toArray = ls at hl ⊢
  have hl : lv_has ls 4 [(0, .ref (ad 0)), (1, .int a1)] := hl
  have kf34 := hts _ (List.mem_cons_of_mem _ m_fl_X2_34)
  have ki2 := (fun w h => List.mem_cons_of_mem _ (i_X2 w h) : ∀ w ∈ u_ws RX2 TX2 15, w ∈ wsX2_isMet)
  have kf54 := hts _ (List.mem_cons_of_mem _ m_fl_X2_54)
  have kf55 := hts _ (List.mem_cons_of_mem _ m_fl_X2_55)
  have ki1 := (fun w h => List.mem_cons_of_mem _ (i_X1 w h) : ∀ w ∈ u_ws RX1 TX1 10, w ∈ wsX2_isMet)
  refine (?_ : ∀ (H : Heap) (locs : List Loc), va_P (dC, dI) vwCl (zzK ad cy (ad 11) (ad 18) iK lK aK iB lB aB iC aC) H → va_D A (zzK ad cy (ad 11) (ad 18) iK lK aK iB lB aB iC aC) → va_S A s.heap H locs → W p l e ({ frames := 3, cells := 0, slots := 0, locals := 72 } : Room) s m args below meth c H locs 0 0 QQ (F0 m 0 ls [])) s.heap [] hP hD hS
  clear hP hD hS
  have B39 : ∀ (v1 : Int32) (v2 : Int32) (s0 : Int32) (k2 : Int32 → Option Int32) (hk2 : ∀ (v2' : Int32) (H : Heap) (locs : List Loc) (ls : Array Slot), k2 v2' = some q → va_P (dC, dI) vwCl (zzK ad cy (ad 11) (ad 18) iK lK aK iB lB aB iC aC) H → va_D A (zzK ad cy (ad 11) (ad 18) iK lK aK iB lB aB iC aC) → va_S A s.heap H locs → lv_has ls 4 [(0, .ref (ad 0)), (1, .int v1), (2, .int v2')] → W p l e ({ frames := 3, cells := 0, slots := 0, locals := 72 } : Room) s m args below meth c H locs 0 0 QQ (F0 m 2 ls [])) (H : Heap) (locs : List Loc) (ls : Array Slot), f_K_isMet_39 N (iB 13) (iC 9) (aC 5) (lK 4) (lK 11) (aK 5) (aK 6) k2 v1 v2 s0 = some q → va_P (dC, dI) vwCl (zzK ad cy (ad 11) (ad 18) iK lK aK iB lB aB iC aC) H → va_D A (zzK ad cy (ad 11) (ad 18) iK lK aK iB lB aB iC aC) → va_S A s.heap H locs → lv_has ls 4 [(0, .ref (ad 0)), (1, .int v1), (2, .int v2)] → W p l e ({ frames := 3, cells := 0, slots := 0, locals := 72 } : Room) s m args below meth c H locs 0 0 QQ (F0 m 39 ls [.int s0]) := by
    intro v1 v2 s0 k2 hk2 H locs ls h hP hD hS hl
    unfold f_K_isMet_39 at h
    refine lv_istore_n (lv' := [(3, .int s0), (0, .ref (ad 0)), (1, .int v1), (2, .int v2)]) hx hb dX2_isMet_39 rfl hl (by decide) rfl (fun ls hl => ?_)
    refine lv_iload_n hx hb dX2_isMet_40 rfl (lv_at hl 0 rfl) ?_
    refine lv_if_eq (tgt := 60) hx hb dX2_isMet_41 (by decide) (fun cz => ?_) (fun cz => ?_)
    · have h := g_t h cz
      refine lv_iinc (v := (v2 + (1 : Int32))) (lv' := [(2, .int ((v2 + (1 : Int32)))), (3, .int s0), (0, .ref (ad 0)), (1, .int v1)]) hx hb dX2_isMet_60 hl (k := 3) rfl rfl (by decide) rfl (fun ls hl => ?_)
      refine lv_goto (tgt := 2) hx hb dX2_isMet_63 (by decide) ?_
      exact hk2 ((v2 + (1 : Int32))) H locs ls h hP hD hS (lv_sub hl [2, 3, 0] rfl)
    · have h := g_f h cz
      refine lv_aload_n hx hb dX2_isMet_44 rfl (lv_at hl 1 rfl) ?_
      refine lv_iload_n hx hb dX2_isMet_45 rfl (lv_at hl 2 rfl) ?_
      refine lv_iload_n hx hb dX2_isMet_46 rfl (lv_at hl 3 rfl) ?_
      refine lv_aload_n hx hb dX2_isMet_47 rfl (lv_at hl 1 rfl) ?_
      refine va_get (D := (dC, dI)) (ci := 2) (v := .ref (ad 8)) (C := RX2) (T := TX2) (N := 15) hx hb hts ki2 hown hK hP 0 rfl rfl 11 (by decide) kf34 (fun _ h9 => h9) rfl dX2_isMet_48 ?_
      obtain ⟨q51, e51, h⟩ := g_b h
      refine callVis (cc := cX2_isMet) (w1 := zzK ad cy (ad 11) (ad 18) iK lK aK iB lB aB iC aC) (As := [.int v1, .int v2, .ref (ad 8)]) (rest := []) ⟨hx, hb, hml, hown, hts⟩ (c_K_leastMeeting_before l dC dI cy ad H.size N v1 v2 iK lK aK iB lB aB iC aC q51 e51) (cwV 3 hts (goodV m_ml_X2_173 m_im_X2_leastMeeting m_se_X2_leastMeeting m_in_X2 m_cd_X2_leastMeeting) rfl rfl rfl (by decide +kernel) ⟨Nat.le_of_ble_eq_true rfl, Nat.le_of_ble_eq_true rfl⟩) hN hK hP hD hS hA rfl 0 rfl rfl rfl hl.1 rfl (Nat.le_of_ble_eq_true rfl) dX2_isMet_51 ⟨Nat.zero_le _, Nat.zero_le _⟩ (fun H locs hP hD hS => ?_)
      refine lv_iconst (v := (-1)) hx hb dX2_isMet_54 (by decide) ?_
      refine lv_icmp_ne (tgt := 60) hx hb dX2_isMet_55 (by decide) (fun cz => ?_) (fun cz => ?_)
      · have h := g_f h cz
        refine lv_iinc (v := (v2 + (1 : Int32))) (lv' := [(2, .int ((v2 + (1 : Int32)))), (3, .int s0), (0, .ref (ad 0)), (1, .int v1)]) hx hb dX2_isMet_60 hl (k := 3) rfl rfl (by decide) rfl (fun ls hl => ?_)
        refine lv_goto (tgt := 2) hx hb dX2_isMet_63 (by decide) ?_
        exact hk2 ((v2 + (1 : Int32))) H locs ls h hP hD hS (lv_sub hl [2, 3, 0] rfl)
      · have h := g_t h cz
        refine lv_iconst (v := 0) hx hb dX2_isMet_58 (by decide) ?_
        have h' := Option.some.inj h
        rw [← hQQ]
        exact W.zret (v := (0 : Int32)) hx hb hr rfl (fun t ht hW => ⟨⟨(0 : Int32), (), rfl, by rw [← h'], by rw [← hWQ, ht]; exact hP, va_K.moved hW.alike hK⟩, hS.F ht⟩) hS.2.2 dX2_isMet_59
  have B2 : ∀ (n : Nat) (v1 : Int32) (v2 : Int32) (H : Heap) (locs : List Loc) (ls : Array Slot), f_K_isMet_2 N (iB 13) (iC 9) (aC 5) (lK 4) (lK 11) (aK 5) (aK 6) v1 n v2 = some q → va_P (dC, dI) vwCl (zzK ad cy (ad 11) (ad 18) iK lK aK iB lB aB iC aC) H → va_D A (zzK ad cy (ad 11) (ad 18) iK lK aK iB lB aB iC aC) → va_S A s.heap H locs → lv_has ls 4 [(0, .ref (ad 0)), (1, .int v1), (2, .int v2)] → W p l e ({ frames := 3, cells := 0, slots := 0, locals := 72 } : Room) s m args below meth c H locs 0 0 QQ (F0 m 2 ls []) := by
    intro n
    induction n with
    | zero =>
      intro v1 v2 H locs ls h hP hD hS hl
      rw [f_K_isMet_2] at h
      cases h
    | succ n ih =>
      intro v1 v2 H locs ls h hP hD hS hl
      rw [f_K_isMet_2] at h
      refine lv_iload_n hx hb dX2_isMet_2 rfl (lv_at hl 2 rfl) ?_
      refine lv_aload_n hx hb dX2_isMet_3 rfl (lv_at hl 0 rfl) ?_
      refine va_get (D := (dC, dI)) (ci := 2) (v := .ref (ad 18)) (C := RX2) (T := TX2) (N := 15) hx hb hts ki2 hown hK hP 0 rfl rfl 1 (by decide) kf54 (fun _ h9 => h9) rfl dX2_isMet_4 ?_
      refine va_get (D := (dC, dI)) (ci := 1) (v := .int (iC 9)) (C := RX1) (T := TX1) (N := 10) hx hb hts ki1 hown hK hP 18 rfl rfl 9 (by decide) kf55 (fun _ h9 => h9) rfl dX2_isMet_7 ?_
      refine lv_icmp_ge (tgt := 66) hx hb dX2_isMet_10 (by decide) (fun cz => ?_) (fun cz => ?_)
      · have h := g_t h cz
        refine lv_iconst (v := 1) hx hb dX2_isMet_66 (by decide) ?_
        have h' := Option.some.inj h
        rw [← hQQ]
        exact W.zret (v := (1 : Int32)) hx hb hr rfl (fun t ht hW => ⟨⟨(1 : Int32), (), rfl, by rw [← h'], by rw [← hWQ, ht]; exact hP, va_K.moved hW.alike hK⟩, hS.F ht⟩) hS.2.2 dX2_isMet_67
      · have h := g_f h cz
        refine lv_iload_n hx hb dX2_isMet_13 rfl (lv_at hl 1 rfl) ?_
        refine lv_iload_n hx hb dX2_isMet_14 rfl (lv_at hl 2 rfl) ?_
        refine lv_ishr hx hb dX2_isMet_15 ?_
        refine lv_iconst (v := 1) hx hb dX2_isMet_16 (by decide) ?_
        refine lv_iand hx hb dX2_isMet_17 ?_
        refine lv_iconst (v := 1) hx hb dX2_isMet_18 (by decide) ?_
        refine lv_icmp_ne (tgt := 38) hx hb dX2_isMet_19 (by decide) (fun cz => ?_) (fun cz => ?_)
        · have h := g_f h cz
          refine lv_iconst (v := 0) hx hb dX2_isMet_38 (by decide) ?_
          exact B39 v1 v2 ((0 : Int32)) (f_K_isMet_2 N (iB 13) (iC 9) (aC 5) (lK 4) (lK 11) (aK 5) (aK 6) v1 n) (ih v1) H locs ls h hP hD hS (lv_sub hl [0, 1, 2] rfl)
        · have h := g_t h cz
          refine lv_aload_n hx hb dX2_isMet_22 rfl (lv_at hl 0 rfl) ?_
          refine va_get (D := (dC, dI)) (ci := 2) (v := .ref (ad 18)) (C := RX2) (T := TX2) (N := 15) hx hb hts ki2 hown hK hP 0 rfl rfl 1 (by decide) kf54 (fun _ h9 => h9) rfl dX2_isMet_23 ?_
          refine lv_iload_n hx hb dX2_isMet_26 rfl (lv_at hl 2 rfl) ?_
          obtain ⟨q27, e27, h⟩ := g_b h
          refine callVi (cc := cX2_isMet) (ws' := zzK ad cy (ad 11) (ad 18) iK lK aK iB lB aB iC aC) (As := [.int v2]) (rest := []) ⟨hx, hb, hml, hown, hts⟩ (c_C_roleOfAtom l dC dI cy (fun i => ad (i + 18)) H.size v2 iC aC q27 e27) (cwV 1 hts (goodV m_ml_X2_147 m_im_X1_roleOfAtom m_se_X1_roleOfAtom m_in_X1 m_cd_X1_roleOfAtom) rfl rfl rfl (by decide +kernel) ⟨Nat.le_of_ble_eq_true rfl, Nat.le_of_ble_eq_true rfl⟩) hN hK hP hD hS hA [18, 19, 20, 21, 22, 23, 24, 25, 26] [none, none, none, none, none, none, none, none, none, none, none, none, none, none, none, none, none, none, some 0, some 1, some 2, some 3, some 4, some 5, some 6, some 7, some 8] rfl rfl rfl rfl rfl rfl 18 rfl rfl rfl hl.1 rfl (Nat.le_of_ble_eq_true rfl) dX2_isMet_27 ⟨Nat.zero_le _, Nat.zero_le _⟩ (fun H locs hP hD hS => ?_)
          refine lv_iconst (v := (-1)) hx hb dX2_isMet_30 (by decide) ?_
          refine lv_icmp_eq (tgt := 38) hx hb dX2_isMet_31 (by decide) (fun cz => ?_) (fun cz => ?_)
          · have h := g_t h cz
            refine lv_iconst (v := 0) hx hb dX2_isMet_38 (by decide) ?_
            exact B39 v1 v2 ((0 : Int32)) (f_K_isMet_2 N (iB 13) (iC 9) (aC 5) (lK 4) (lK 11) (aK 5) (aK 6) v1 n) (ih v1) H locs ls h hP hD hS (lv_sub hl [0, 1, 2] rfl)
          · have h := g_f h cz
            refine lv_iconst (v := 1) hx hb dX2_isMet_34 (by decide) ?_
            refine lv_goto (tgt := 39) hx hb dX2_isMet_35 (by decide) ?_
            exact B39 v1 v2 ((1 : Int32)) (f_K_isMet_2 N (iB 13) (iC 9) (aC 5) (lK 4) (lK 11) (aK 5) (aK 6) v1 n) (ih v1) H locs ls h hP hD hS (lv_sub hl [0, 1, 2] rfl)
  intro H locs hP hD hS
  unfold f_K_isMet at h
  refine lv_iconst (v := 0) hx hb dX2_isMet_0 (by decide) ?_
  refine lv_istore_n (lv' := [(2, .int ((0 : Int32))), (0, .ref (ad 0)), (1, .int a1)]) hx hb dX2_isMet_1 rfl hl (by decide) rfl (fun ls hl => ?_)
  exact B2 N a1 ((0 : Int32)) H locs ls h hP hD hS (lv_sub hl [1, 2, 0] rfl)
