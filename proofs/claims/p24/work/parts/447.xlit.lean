/-! states written down -/
noncomputable def xtdec {α : Type} (i : DecidableEq α) (d : Nat) : DecidableEq (XT α d) := @Nat.rec (fun d => DecidableEq (XT α d)) (inferInstanceAs (DecidableEq (Option α))) (fun d ih => @instDecidableEqProd (XT α d) (XT α d) ih ih) d
noncomputable def xdV : DecidableEq XV := inferInstance
noncomputable def xdA : DecidableEq XA := @instDecidableEqSum Unit _ inferInstance (@instDecidableEqSum _ _ (xtdec xdV 6) (@instDecidableEqSum _ _ (xtdec xdV 11) (xtdec xdV 18)))
noncomputable def xdC : DecidableEq XC := @instDecidableEqSum _ _ (@instDecidableEqProd _ _ inferInstance (@instDecidableEqProd _ _ inferInstance (@instDecidableEqProd _ _ xdV xdA))) (@instDecidableEqProd _ _ inferInstance (xtdec xdV 7))
noncomputable def xdH : DecidableEq XHp := @instDecidableEqProd _ _ inferInstance (xtdec xdC 10)
noncomputable def xdF1 : DecidableEq XF := @instDecidableEqProd _ _ inferInstance (@instDecidableEqProd _ _ inferInstance (@instDecidableEqProd _ _ (@instDecidableEqList _ (@instDecidableEqProd _ _ inferInstance xdV)) (@instDecidableEqProd _ _ (@instDecidableEqList _ xdV) inferInstance)))
noncomputable def xdF : DecidableEq (List XF) := @instDecidableEqList _ xdF1
noncomputable def xdE : DecidableEq XE := inferInstance
noncomputable def xdS : DecidableEq XS := @instDecidableEqProd _ _ xdF (@instDecidableEqProd _ _ xdH xdE)
noncomputable def xsame (a : Option (List XS)) (w : List XS) : Bool := match a with
  | some b => @decide (b = w) (@instDecidableEqList _ xdS b w)
  | none => false
theorem xsame_ok {a : Option (List XS)} {w : List XS} (h : xsame a w = true) : a = some w := by
  cases a with
  | none => cases h
  | some b =>
    have h : @decide (b = w) (@instDecidableEqList _ xdS b w) = true := h
    rw [@of_decide_eq_true _ (@instDecidableEqList _ xdS b w) h]
noncomputable def xvi (c : Int) : XV := .inl (.inl (Int32.ofInt c))
noncomputable def xvs (k : Nat) : XV := .inl (.inr (.inl k))
noncomputable def xvg (a c : Int) : XV := .inl (.inr (.inr (a, c)))
noncomputable def xvn : XV := .inr (.inl none)
noncomputable def xvl (c : Int) : XV := .inr (.inl (some (.inl (Int64.ofInt c))))
noncomputable def xvt (k : Nat) : XV := .inr (.inl (some (.inr k)))
noncomputable def xvr' (k : Nat) : XV := .inr (.inr k)
noncomputable def xtF {α : Type} (d lo n : Nat) (v : α) (t : XT α d) : XT α d := @Nat.rec (fun _ => XT α d) t (fun j ih => xtset d ih (lo + j) v) n
noncomputable def xtR {α : Type} (d : Nat) (l : List (Nat × Nat × α)) : XT α d := @List.rec (Nat × Nat × α) (fun _ => XT α d) (xtz d) (fun q _ ih => xtF d q.1 q.2.1 q.2.2 ih) l
noncomputable def xa0 : XA := .inl ()
noncomputable def xa6 (l : List (Nat × Nat × XV)) : XA := .inr (.inl (xtR 6 l))
noncomputable def xa11 (l : List (Nat × Nat × XV)) : XA := .inr (.inr (.inl (xtR 11 l)))
noncomputable def xa18 (l : List (Nat × Nat × XV)) : XA := .inr (.inr (.inr (xtR 18 l)))
noncomputable def xca (t n : Nat) (d : XV) (a : XA) : XC := .inl (t, n, d, a)
noncomputable def xco (ci : Nat) (l : List (Nat × Nat × XV)) : XC := .inr (ci, xtR 7 l)
