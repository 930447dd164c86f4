/-! Rows for whole numbers. -/
section RN
variable {w : zWp} {f : zMth} {d cr pc n : Nat} {lv stk : List zAV} {σ : zSt} {r : zRes} {σ' : zSt} {a b : Nat}
theorem g_idivN (hd : decode f.2.1 pc = .ok (.idiv, 1)) (hn : pc + 1 = n) (ha : a < 2 ^ 31) (h0 : 0 < b) (hb : b < 2 ^ 31) (kk : zG w f d cr n lv (vI (nI (a / b)) :: stk) σ r σ') : zG w f d cr pc lv (vI (nI b) :: vI (nI a) :: stk) σ r σ' :=
  g_idiv hd hn (nI_ne0 h0 hb) (by rw [pk_div ha h0 hb]; exact kk)
theorem g_iremN (hd : decode f.2.1 pc = .ok (.irem, 1)) (hn : pc + 1 = n) (ha : a < 2 ^ 31) (h0 : 0 < b) (hb : b < 2 ^ 31) (kk : zG w f d cr n lv (vI (nI (a % b)) :: stk) σ r σ') : zG w f d cr pc lv (vI (nI b) :: vI (nI a) :: stk) σ r σ' :=
  g_irem hd hn (nI_ne0 h0 hb) (by rw [pk_rem ha h0 hb]; exact kk)
end RN
