/-! the checksum -/
def mixN (h : Int) (f : Int → Int) : Nat → Int
  | 0 => h
  | n + 1 => 31 * mixN h f n + f (n : Int)
theorem mixS {h i : Int} {f : Int → Int} (hi : 0 ≤ i) : mixN h f (i + 1).toNat = 31 * mixN h f i.toNat + f i := by
  rw [show (i + 1).toNat = i.toNat + 1 by omega, mixN, show ((i.toNat : Nat) : Int) = i by omega]
def mx1 (M : Int → Int) (h : Int) : Int := mixN h (fun k => M (16 + k)) (M 3).toNat
def mx2 (M : Int → Int) (h : Int) : Int := mixN h (fun k => M (49 + k)) 5
def mx3 (M : Int → Int) (h : Int) : Int := mixN h (fun k => sp_rodv M (k / 5) (k % 5) (M 6)) (5 * M 4).toNat
def mx4 (M : Int → Int) (h : Int) : Int := mixN h (fun k => M (54 + k)) (4 * M 15).toNat
def mxW (M : Int → Int) (tl h : Int) : Int := mixN h (fun k => sp_wh M tl k) 18
/-- the whole checksum, the bits of the balance given -/
def dgst (M : Int → Int) (tl sc bits : Int) : Int := 31 * mx4 M (mx3 M (mx2 M (mx1 M (31 * (31 * (31 * mxW M tl (31 * 43239 + sc) + sp_bal M) + M 12) + bits)))) + sp_best M
theorem sp_rodvB {M : Int → Int} {r w t : Int} (hI : gInv M) (hr : 0 ≤ r ∧ r < 9) (ht : -300 ≤ t ∧ t ≤ 600) : -2500 ≤ sp_rodv M r w t ∧ sp_rodv M r w t ≤ 1002500 := by
  have q := hI.2.2.2.1 r hr.1 hr.2
  have s := (sp_strB hI hr ht).2.2
  unfold sp_rodv
  repeat' split <;> omega
