/-! the rows of the heap behind a write -/
section WHP
variable {h : AH} {a b k n s j : Nat}
theorem hI_uI {f : Nat → Int32} : hI_ (uI_ h a f) b = if b = a then f else hI_ h b := rfl
theorem hL_uI {f : Nat → Int32} : hL_ (uI_ h a f) b = hL_ h b := rfl
theorem hR_uI {f : Nat → Int32} : hR_ (uI_ h a f) b = hR_ h b := rfl
theorem nx_uI {f : Nat → Int32} : nx_ (uI_ h a f) = nx_ h := rfl
theorem sl_uI {f : Nat → Int32} : sl_ (uI_ h a f) = sl_ h := rfl
theorem ids_uI {f : Nat → Int32} : ids_ (uI_ h a f) = ids_ h := rfl
theorem hI_uL {f : Nat → Int64} : hI_ (uL_ h a f) b = hI_ h b := rfl
theorem hL_uL {f : Nat → Int64} : hL_ (uL_ h a f) b = if b = a then f else hL_ h b := rfl
theorem hR_uL {f : Nat → Int64} : hR_ (uL_ h a f) b = hR_ h b := rfl
theorem nx_uL {f : Nat → Int64} : nx_ (uL_ h a f) = nx_ h := rfl
theorem sl_uL {f : Nat → Int64} : sl_ (uL_ h a f) = sl_ h := rfl
theorem ids_uL {f : Nat → Int64} : ids_ (uL_ h a f) = ids_ h := rfl
theorem hI_uR {f : Nat → Option Nat} : hI_ (uR_ h a f) b = hI_ h b := rfl
theorem hL_uR {f : Nat → Option Nat} : hL_ (uR_ h a f) b = hL_ h b := rfl
theorem hR_uR {f : Nat → Option Nat} : hR_ (uR_ h a f) b = if b = a then f else hR_ h b := rfl
theorem nx_uR {f : Nat → Option Nat} : nx_ (uR_ h a f) = nx_ h := rfl
theorem sl_uR {f : Nat → Option Nat} : sl_ (uR_ h a f) = sl_ h := rfl
theorem ids_uR {f : Nat → Option Nat} : ids_ (uR_ h a f) = ids_ h := rfl
theorem hI_nw : hI_ (nw_ h k n s) b = if b = mk_ (nx_ h) k n then fun _ => 0 else hI_ h b := rfl
theorem hL_nw : hL_ (nw_ h k n s) b = if b = mk_ (nx_ h) k n then fun _ => 0 else hL_ h b := rfl
theorem hR_nw : hR_ (nw_ h k n s) b = if b = mk_ (nx_ h) k n then fun _ => none else hR_ h b := rfl
theorem nx_nw : nx_ (nw_ h k n s) = nx_ h + 1 := rfl
theorem sl_nw : sl_ (nw_ h k n s) = sl_ h + s := rfl
theorem ids_nw : ids_ (nw_ h k n s) = ids_ h ++ [mk_ (nx_ h) k n] := rfl
theorem hI_xh : hI_ (xh_ h) = hI_ h := rfl
theorem hL_xh : hL_ (xh_ h) = hL_ h := rfl
theorem hR_xh : hR_ (xh_ h) = hR_ h := rfl
theorem nx_xh : nx_ (xh_ h) = nx_ h + 1 := rfl
theorem sl_xh : sl_ (xh_ h) = sl_ h + 6 := rfl
theorem st_eq {α : Type} {f : Nat → α} {v : α} : st_ f k v j = if j = k then v else f j := rfl
theorem kd_mk (hk : k < 64) : kd_ (mk_ s k n) = k := by unfold kd_ mk_; omega
theorem ln_mk (hk : k < 64) (hn : n < 4096) : ln_ (mk_ s k n) = n := by unfold ln_ mk_; omega
theorem sr_mk (hk : k < 64) (hn : n < 4096) : sr_ (mk_ s k n) = s := by unfold sr_ mk_; omega
end WHP
