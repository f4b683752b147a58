/-! ===== the class: layout, rides, cells ===== -/
def LwL (kd : Nat → Nat × Nat) (gl : Nat → Nat) (fr : Nat → Nat → Nat) (a k : Nat) : Prop := kd a = (0, 1) ∧ gl a = k + 61 ∧ (kd (fr 64 a) = (9, 600) ∧ gl (fr 64 a) = k + 64) ∧ (kd (fr 66 a) = (9, 16) ∧ gl (fr 66 a) = k + 66) ∧ (kd (fr 67 a) = (11, 16) ∧ gl (fr 67 a) = k + 67) ∧ kd (fr 68 a) = (9, 16) ∧ gl (fr 68 a) = k + 68
def LCl (kd : Nat → Nat × Nat) (gl : Nat → Nat) (fr ar : Nat → Nat → Nat) (g n : Nat) (p : Nat → Nat) (L : List Nat) : Prop := (kd g = (0, 6)) ∧ (LGn kd gl fr (fr 384 g)) ∧ (kd (fr 385 g) = (12, 10)) ∧ (gl (fr 385 g) = 385) ∧ (kd (fr 386 g) = (12, 10)) ∧ (gl (fr 386 g) = 386) ∧ (kd (fr 389 g) = (0, 4)) ∧ (gl (fr 389 g) = 389) ∧ (kd (fr 390 g) = (0, 5)) ∧ (kd (fr 320 (fr 390 g)) = (8, 600)) ∧ (gl (fr 320 (fr 390 g)) = 320) ∧ (kd (fr 391 g) = (0, 2)) ∧ (kd (fr 128 (fr 391 g)) = (9, 601)) ∧ (gl (fr 128 (fr 391 g)) = 128) ∧ (kd (fr 129 (fr 391 g)) = (9, 601)) ∧ (gl (fr 129 (fr 391 g)) = 129) ∧ (kd (fr 130 (fr 391 g)) = (9, 601)) ∧ (gl (fr 130 (fr 391 g)) = 130) ∧ (kd (fr 394 g) = (9, 6)) ∧ (gl (fr 394 g) = 394) ∧ (kd (fr 395 g) = (9, 3)) ∧ (gl (fr 395 g) = 395) ∧ (kd (fr 396 g) = (9, 3)) ∧ (gl (fr 396 g) = 396) ∧ (L.length = n) ∧ (∃ k, (k = 100 ∨ k = 200) ∧ LwL kd gl fr (fr 392 g) k ∧ LwL kd gl fr (fr 393 g) (300 - k)) ∧ (∀ r, r < n → kd (p r) = (0, 3) ∧ gl (p r) = 1000 + r ∧ kd (fr 198 (p r)) = (0, 4) ∧ gl (fr 198 (p r)) = 2000 + r ∧ ar (fr 385 g) r = p r) ∧ (∀ j r, L[j]? = some r → ar (fr 386 g) j = p r)
theorem LCl.kf {kd : Nat → Nat × Nat} {gl : Nat → Nat} {fr ar : Nat → Nat → Nat} {g n : Nat} {p : Nat → Nat} {L : List Nat} (h : LCl kd gl fr ar g n p L) : kd g = (0, 6) := h.1
theorem LCl.gn {kd : Nat → Nat × Nat} {gl : Nat → Nat} {fr ar : Nat → Nat → Nat} {g n : Nat} {p : Nat → Nat} {L : List Nat} (h : LCl kd gl fr ar g n p L) : LGn kd gl fr (fr 384 g) := h.2.1
theorem LCl.k385 {kd : Nat → Nat × Nat} {gl : Nat → Nat} {fr ar : Nat → Nat → Nat} {g n : Nat} {p : Nat → Nat} {L : List Nat} (h : LCl kd gl fr ar g n p L) : kd (fr 385 g) = (12, 10) := h.2.2.1
theorem LCl.g385 {kd : Nat → Nat × Nat} {gl : Nat → Nat} {fr ar : Nat → Nat → Nat} {g n : Nat} {p : Nat → Nat} {L : List Nat} (h : LCl kd gl fr ar g n p L) : gl (fr 385 g) = 385 := h.2.2.2.1
theorem LCl.k386 {kd : Nat → Nat × Nat} {gl : Nat → Nat} {fr ar : Nat → Nat → Nat} {g n : Nat} {p : Nat → Nat} {L : List Nat} (h : LCl kd gl fr ar g n p L) : kd (fr 386 g) = (12, 10) := h.2.2.2.2.1
theorem LCl.g386 {kd : Nat → Nat × Nat} {gl : Nat → Nat} {fr ar : Nat → Nat → Nat} {g n : Nat} {p : Nat → Nat} {L : List Nat} (h : LCl kd gl fr ar g n p L) : gl (fr 386 g) = 386 := h.2.2.2.2.2.1
theorem LCl.k389 {kd : Nat → Nat × Nat} {gl : Nat → Nat} {fr ar : Nat → Nat → Nat} {g n : Nat} {p : Nat → Nat} {L : List Nat} (h : LCl kd gl fr ar g n p L) : kd (fr 389 g) = (0, 4) := h.2.2.2.2.2.2.1
theorem LCl.g389 {kd : Nat → Nat × Nat} {gl : Nat → Nat} {fr ar : Nat → Nat → Nat} {g n : Nat} {p : Nat → Nat} {L : List Nat} (h : LCl kd gl fr ar g n p L) : gl (fr 389 g) = 389 := h.2.2.2.2.2.2.2.1
theorem LCl.k390 {kd : Nat → Nat × Nat} {gl : Nat → Nat} {fr ar : Nat → Nat → Nat} {g n : Nat} {p : Nat → Nat} {L : List Nat} (h : LCl kd gl fr ar g n p L) : kd (fr 390 g) = (0, 5) := h.2.2.2.2.2.2.2.2.1
theorem LCl.k320 {kd : Nat → Nat × Nat} {gl : Nat → Nat} {fr ar : Nat → Nat → Nat} {g n : Nat} {p : Nat → Nat} {L : List Nat} (h : LCl kd gl fr ar g n p L) : kd (fr 320 (fr 390 g)) = (8, 600) := h.2.2.2.2.2.2.2.2.2.1
theorem LCl.g320 {kd : Nat → Nat × Nat} {gl : Nat → Nat} {fr ar : Nat → Nat → Nat} {g n : Nat} {p : Nat → Nat} {L : List Nat} (h : LCl kd gl fr ar g n p L) : gl (fr 320 (fr 390 g)) = 320 := h.2.2.2.2.2.2.2.2.2.2.1
theorem LCl.k391 {kd : Nat → Nat × Nat} {gl : Nat → Nat} {fr ar : Nat → Nat → Nat} {g n : Nat} {p : Nat → Nat} {L : List Nat} (h : LCl kd gl fr ar g n p L) : kd (fr 391 g) = (0, 2) := h.2.2.2.2.2.2.2.2.2.2.2.1
theorem LCl.k128 {kd : Nat → Nat × Nat} {gl : Nat → Nat} {fr ar : Nat → Nat → Nat} {g n : Nat} {p : Nat → Nat} {L : List Nat} (h : LCl kd gl fr ar g n p L) : kd (fr 128 (fr 391 g)) = (9, 601) := h.2.2.2.2.2.2.2.2.2.2.2.2.1
theorem LCl.g128 {kd : Nat → Nat × Nat} {gl : Nat → Nat} {fr ar : Nat → Nat → Nat} {g n : Nat} {p : Nat → Nat} {L : List Nat} (h : LCl kd gl fr ar g n p L) : gl (fr 128 (fr 391 g)) = 128 := h.2.2.2.2.2.2.2.2.2.2.2.2.2.1
theorem LCl.k129 {kd : Nat → Nat × Nat} {gl : Nat → Nat} {fr ar : Nat → Nat → Nat} {g n : Nat} {p : Nat → Nat} {L : List Nat} (h : LCl kd gl fr ar g n p L) : kd (fr 129 (fr 391 g)) = (9, 601) := h.2.2.2.2.2.2.2.2.2.2.2.2.2.2.1
theorem LCl.g129 {kd : Nat → Nat × Nat} {gl : Nat → Nat} {fr ar : Nat → Nat → Nat} {g n : Nat} {p : Nat → Nat} {L : List Nat} (h : LCl kd gl fr ar g n p L) : gl (fr 129 (fr 391 g)) = 129 := h.2.2.2.2.2.2.2.2.2.2.2.2.2.2.2.1
theorem LCl.k130 {kd : Nat → Nat × Nat} {gl : Nat → Nat} {fr ar : Nat → Nat → Nat} {g n : Nat} {p : Nat → Nat} {L : List Nat} (h : LCl kd gl fr ar g n p L) : kd (fr 130 (fr 391 g)) = (9, 601) := h.2.2.2.2.2.2.2.2.2.2.2.2.2.2.2.2.1
theorem LCl.g130 {kd : Nat → Nat × Nat} {gl : Nat → Nat} {fr ar : Nat → Nat → Nat} {g n : Nat} {p : Nat → Nat} {L : List Nat} (h : LCl kd gl fr ar g n p L) : gl (fr 130 (fr 391 g)) = 130 := h.2.2.2.2.2.2.2.2.2.2.2.2.2.2.2.2.2.1
theorem LCl.k394 {kd : Nat → Nat × Nat} {gl : Nat → Nat} {fr ar : Nat → Nat → Nat} {g n : Nat} {p : Nat → Nat} {L : List Nat} (h : LCl kd gl fr ar g n p L) : kd (fr 394 g) = (9, 6) := h.2.2.2.2.2.2.2.2.2.2.2.2.2.2.2.2.2.2.1
theorem LCl.g394 {kd : Nat → Nat × Nat} {gl : Nat → Nat} {fr ar : Nat → Nat → Nat} {g n : Nat} {p : Nat → Nat} {L : List Nat} (h : LCl kd gl fr ar g n p L) : gl (fr 394 g) = 394 := h.2.2.2.2.2.2.2.2.2.2.2.2.2.2.2.2.2.2.2.1
theorem LCl.k395 {kd : Nat → Nat × Nat} {gl : Nat → Nat} {fr ar : Nat → Nat → Nat} {g n : Nat} {p : Nat → Nat} {L : List Nat} (h : LCl kd gl fr ar g n p L) : kd (fr 395 g) = (9, 3) := h.2.2.2.2.2.2.2.2.2.2.2.2.2.2.2.2.2.2.2.2.1
theorem LCl.g395 {kd : Nat → Nat × Nat} {gl : Nat → Nat} {fr ar : Nat → Nat → Nat} {g n : Nat} {p : Nat → Nat} {L : List Nat} (h : LCl kd gl fr ar g n p L) : gl (fr 395 g) = 395 := h.2.2.2.2.2.2.2.2.2.2.2.2.2.2.2.2.2.2.2.2.2.1
theorem LCl.k396 {kd : Nat → Nat × Nat} {gl : Nat → Nat} {fr ar : Nat → Nat → Nat} {g n : Nat} {p : Nat → Nat} {L : List Nat} (h : LCl kd gl fr ar g n p L) : kd (fr 396 g) = (9, 3) := h.2.2.2.2.2.2.2.2.2.2.2.2.2.2.2.2.2.2.2.2.2.2.1
theorem LCl.g396 {kd : Nat → Nat × Nat} {gl : Nat → Nat} {fr ar : Nat → Nat → Nat} {g n : Nat} {p : Nat → Nat} {L : List Nat} (h : LCl kd gl fr ar g n p L) : gl (fr 396 g) = 396 := h.2.2.2.2.2.2.2.2.2.2.2.2.2.2.2.2.2.2.2.2.2.2.2.1
theorem LCl.ln {kd : Nat → Nat × Nat} {gl : Nat → Nat} {fr ar : Nat → Nat → Nat} {g n : Nat} {p : Nat → Nat} {L : List Nat} (h : LCl kd gl fr ar g n p L) : L.length = n := h.2.2.2.2.2.2.2.2.2.2.2.2.2.2.2.2.2.2.2.2.2.2.2.2.1
theorem LCl.lw {kd : Nat → Nat × Nat} {gl : Nat → Nat} {fr ar : Nat → Nat → Nat} {g n : Nat} {p : Nat → Nat} {L : List Nat} (h : LCl kd gl fr ar g n p L) : ∃ k, (k = 100 ∨ k = 200) ∧ LwL kd gl fr (fr 392 g) k ∧ LwL kd gl fr (fr 393 g) (300 - k) := h.2.2.2.2.2.2.2.2.2.2.2.2.2.2.2.2.2.2.2.2.2.2.2.2.2.1
theorem LCl.rd {kd : Nat → Nat × Nat} {gl : Nat → Nat} {fr ar : Nat → Nat → Nat} {g n : Nat} {p : Nat → Nat} {L : List Nat} (h : LCl kd gl fr ar g n p L) : ∀ r, r < n → kd (p r) = (0, 3) ∧ gl (p r) = 1000 + r ∧ kd (fr 198 (p r)) = (0, 4) ∧ gl (fr 198 (p r)) = 2000 + r ∧ ar (fr 385 g) r = p r := h.2.2.2.2.2.2.2.2.2.2.2.2.2.2.2.2.2.2.2.2.2.2.2.2.2.2.1
theorem LCl.rk {kd : Nat → Nat × Nat} {gl : Nat → Nat} {fr ar : Nat → Nat → Nat} {g n : Nat} {p : Nat → Nat} {L : List Nat} (h : LCl kd gl fr ar g n p L) : ∀ j r, L[j]? = some r → ar (fr 386 g) j = p r := h.2.2.2.2.2.2.2.2.2.2.2.2.2.2.2.2.2.2.2.2.2.2.2.2.2.2.2
theorem LCl.kg {kd : Nat → Nat × Nat} {gl : Nat → Nat} {fr ar : Nat → Nat → Nat} {g n : Nat} {p : Nat → Nat} {L : List Nat} (h : LCl kd gl fr ar g n p L) : kd (fr 384 g) = (0, 0) := h.gn.1
theorem LCl.kp {kd : Nat → Nat × Nat} {gl : Nat → Nat} {fr ar : Nat → Nat → Nat} {g n : Nat} {p : Nat → Nat} {L : List Nat} (h : LCl kd gl fr ar g n p L) {r : Nat} (hr : r < n) : kd (p r) = (0, 3) := (h.rd r hr).1
theorem LCl.gp {kd : Nat → Nat × Nat} {gl : Nat → Nat} {fr ar : Nat → Nat → Nat} {g n : Nat} {p : Nat → Nat} {L : List Nat} (h : LCl kd gl fr ar g n p L) {r : Nat} (hr : r < n) : gl (p r) = 1000 + r := (h.rd r hr).2.1
theorem LCl.ks {kd : Nat → Nat × Nat} {gl : Nat → Nat} {fr ar : Nat → Nat → Nat} {g n : Nat} {p : Nat → Nat} {L : List Nat} (h : LCl kd gl fr ar g n p L) {r : Nat} (hr : r < n) : kd (fr 198 (p r)) = (0, 4) := (h.rd r hr).2.2.1
theorem LCl.gs {kd : Nat → Nat × Nat} {gl : Nat → Nat} {fr ar : Nat → Nat → Nat} {g n : Nat} {p : Nat → Nat} {L : List Nat} (h : LCl kd gl fr ar g n p L) {r : Nat} (hr : r < n) : gl (fr 198 (p r)) = 2000 + r := (h.rd r hr).2.2.2.1
theorem LCl.ap {kd : Nat → Nat × Nat} {gl : Nat → Nat} {fr ar : Nat → Nat → Nat} {g n : Nat} {p : Nat → Nat} {L : List Nat} (h : LCl kd gl fr ar g n p L) {r : Nat} (hr : r < n) : ar (fr 385 g) r = p r := (h.rd r hr).2.2.2.2
/-- a ride and its spot -/
def RF (σ : SG) (fi : Nat → Nat → Int32) (a s r : Nat) : Prop := fi 192 a = nI r ∧ fi 193 a = nI (σ.wd r) ∧ fi 194 a = nI (σ.hg r) ∧ fi 195 a = nI (σ.pw r) ∧ fi 196 a = nI (σ.ns r) ∧ fi 197 a = nI (σ.rk r) ∧ fi 199 a = b2i (decide (σ.li r < 240)) ∧ fi 200 a = b2i (σ.sk r) ∧ fi 201 a = pl (σ.rt r) ∧ fi 202 a = nI (σ.hd r) ∧ fi 203 a = nI (σ.ms r) ∧ (∃ t : Bool, fi 260 s = b2i t) ∧ (σ.li r < 240 → fi 256 s = nI (px (σ.li r)) ∧ fi 257 s = nI (py (σ.li r)) ∧ fi 258 s = nI (σ.wA r (σ.li r)) ∧ fi 259 s = nI (σ.hA r (σ.li r)) ∧ fi 260 s = b2i (decide (σ.li r % 2 = 1)))
def CRr (σ : SG) (fi : Nat → Nat → Int32) (fr : Nat → Nat → Nat) (g : Nat) (p : Nat → Nat) : Prop := fi 387 g = nI σ.n ∧ fi 388 g = nI σ.yr ∧ fi 4 (fr 384 g) = nI σ.gr ∧ ∀ r, r < σ.n → RF σ fi (p r) (fr 198 (p r)) r
def cellV (σ : SG) (c : Nat) : Int32 := if σ.cl c then -2 else covN σ c σ.n
def CRc (σ : SG) (h : HP) (g : Nat) : Prop := ∀ c, c < 120 → h.ai (h.fr 0 (h.fr 384 g)) c = cellV σ c
theorem CRr.num {σ : SG} {fi : Nat → Nat → Int32} {fr : Nat → Nat → Nat} {g : Nat} {p : Nat → Nat} (h : CRr σ fi fr g p) {r : Nat} (hr : r < σ.n) : fi 192 (p r) = nI r := (h.2.2.2 r hr).1
theorem CRr.wd {σ : SG} {fi : Nat → Nat → Int32} {fr : Nat → Nat → Nat} {g : Nat} {p : Nat → Nat} (h : CRr σ fi fr g p) {r : Nat} (hr : r < σ.n) : fi 193 (p r) = nI (σ.wd r) := (h.2.2.2 r hr).2.1
theorem CRr.hg {σ : SG} {fi : Nat → Nat → Int32} {fr : Nat → Nat → Nat} {g : Nat} {p : Nat → Nat} (h : CRr σ fi fr g p) {r : Nat} (hr : r < σ.n) : fi 194 (p r) = nI (σ.hg r) := (h.2.2.2 r hr).2.2.1
theorem CRr.pw {σ : SG} {fi : Nat → Nat → Int32} {fr : Nat → Nat → Nat} {g : Nat} {p : Nat → Nat} (h : CRr σ fi fr g p) {r : Nat} (hr : r < σ.n) : fi 195 (p r) = nI (σ.pw r) := (h.2.2.2 r hr).2.2.2.1
theorem CRr.ns {σ : SG} {fi : Nat → Nat → Int32} {fr : Nat → Nat → Nat} {g : Nat} {p : Nat → Nat} (h : CRr σ fi fr g p) {r : Nat} (hr : r < σ.n) : fi 196 (p r) = nI (σ.ns r) := (h.2.2.2 r hr).2.2.2.2.1
theorem CRr.rk {σ : SG} {fi : Nat → Nat → Int32} {fr : Nat → Nat → Nat} {g : Nat} {p : Nat → Nat} (h : CRr σ fi fr g p) {r : Nat} (hr : r < σ.n) : fi 197 (p r) = nI (σ.rk r) := (h.2.2.2 r hr).2.2.2.2.2.1
theorem CRr.lie {σ : SG} {fi : Nat → Nat → Int32} {fr : Nat → Nat → Nat} {g : Nat} {p : Nat → Nat} (h : CRr σ fi fr g p) {r : Nat} (hr : r < σ.n) : fi 199 (p r) = b2i (decide (σ.li r < 240)) := (h.2.2.2 r hr).2.2.2.2.2.2.1
theorem CRr.sk {σ : SG} {fi : Nat → Nat → Int32} {fr : Nat → Nat → Nat} {g : Nat} {p : Nat → Nat} (h : CRr σ fi fr g p) {r : Nat} (hr : r < σ.n) : fi 200 (p r) = b2i (σ.sk r) := (h.2.2.2 r hr).2.2.2.2.2.2.2.1
theorem CRr.rt {σ : SG} {fi : Nat → Nat → Int32} {fr : Nat → Nat → Nat} {g : Nat} {p : Nat → Nat} (h : CRr σ fi fr g p) {r : Nat} (hr : r < σ.n) : fi 201 (p r) = pl (σ.rt r) := (h.2.2.2 r hr).2.2.2.2.2.2.2.2.1
theorem CRr.hd {σ : SG} {fi : Nat → Nat → Int32} {fr : Nat → Nat → Nat} {g : Nat} {p : Nat → Nat} (h : CRr σ fi fr g p) {r : Nat} (hr : r < σ.n) : fi 202 (p r) = nI (σ.hd r) := (h.2.2.2 r hr).2.2.2.2.2.2.2.2.2.1
theorem CRr.ms {σ : SG} {fi : Nat → Nat → Int32} {fr : Nat → Nat → Nat} {g : Nat} {p : Nat → Nat} (h : CRr σ fi fr g p) {r : Nat} (hr : r < σ.n) : fi 203 (p r) = nI (σ.ms r) := (h.2.2.2 r hr).2.2.2.2.2.2.2.2.2.2.1
theorem CRr.tb {σ : SG} {fi : Nat → Nat → Int32} {fr : Nat → Nat → Nat} {g : Nat} {p : Nat → Nat} (h : CRr σ fi fr g p) {r : Nat} (hr : r < σ.n) : ∃ t : Bool, fi 260 (fr 198 (p r)) = b2i t := (h.2.2.2 r hr).2.2.2.2.2.2.2.2.2.2.2.1
theorem CRr.sp {σ : SG} {fi : Nat → Nat → Int32} {fr : Nat → Nat → Nat} {g : Nat} {p : Nat → Nat} (h : CRr σ fi fr g p) {r : Nat} (hr : r < σ.n) (hl : σ.li r < 240) : fi 256 (fr 198 (p r)) = nI (px (σ.li r)) ∧ fi 257 (fr 198 (p r)) = nI (py (σ.li r)) ∧ fi 258 (fr 198 (p r)) = nI (σ.wA r (σ.li r)) ∧ fi 259 (fr 198 (p r)) = nI (σ.hA r (σ.li r)) ∧ fi 260 (fr 198 (p r)) = b2i (decide (σ.li r % 2 = 1)) := (h.2.2.2 r hr).2.2.2.2.2.2.2.2.2.2.2.2 hl
def SG.dX (σ : SG) (r : Nat) : Nat := px (σ.li r) + (σ.wA r (σ.li r) - 1) / 2
def SG.dY (σ : SG) (r : Nat) : Nat := py (σ.li r) + σ.hA r (σ.li r)
theorem dr_xy (σ : SG) (r : Nat) : σ.dr r = 12 * σ.dY r + σ.dX r := by unfold SG.dr SG.dA SG.dX SG.dY; omega
theorem WF.dxy {σ : SG} (h : WF σ) {r : Nat} (hr : r < σ.n) (hl : σ.li r < 240) : σ.dX r < 12 ∧ σ.dY r < 10 := by
  have := h.2.2.2.2.1 r hr hl
  have := h.wA hr (σ.li r)
  unfold SG.onG at *
  unfold SG.dX SG.dY
  omega
theorem half_nI {x w : Nat} (hw : 1 ≤ w) (h9 : w < 1000) : nI x + (nI w - 1) / 2 = nI (x + (w - 1) / 2) := by
  rw [m1x _ (by omega), show nI (w - 1) / 2 = nI ((w - 1) / 2) from pk_div (d := 2) (by omega) (by decide) (by decide), nI_add]
theorem CRr.dx {σ : SG} {fi : Nat → Nat → Int32} {fr : Nat → Nat → Nat} {g : Nat} {p : Nat → Nat} (h : CRr σ fi fr g p) (W : WF σ) {r : Nat} (hr : r < σ.n) (hl : σ.li r < 240) : fi 256 (fr 198 (p r)) + (fi 258 (fr 198 (p r)) - 1) / 2 = nI (σ.dX r) := by
  obtain ⟨h1, -, h3, -⟩ := h.sp hr hl
  have := W.wA hr (σ.li r)
  rw [h1, h3, half_nI (by omega) (by omega)]; rfl
theorem CRr.dy {σ : SG} {fi : Nat → Nat → Int32} {fr : Nat → Nat → Nat} {g : Nat} {p : Nat → Nat} (h : CRr σ fi fr g p) {r : Nat} (hr : r < σ.n) (hl : σ.li r < 240) : fi 257 (fr 198 (p r)) + fi 259 (fr 198 (p r)) = nI (σ.dY r) := by
  obtain ⟨-, h2, -, h4, -⟩ := h.sp hr hl
  rw [h2, h4, nI_add]; rfl
theorem cell_free {σ : SG} {c : Nat} (hn : σ.n ≤ 10) : cellV σ c = -1 ↔ σ.fre c = true := by
  unfold cellV SG.fre
  cases e : σ.cl c with
  | true => simp
  | false =>
    have h1 := covN_neg (σ := σ) (c := c) hn
    simp only [Bool.not_false, Bool.true_and, Bool.not_eq_true', if_false, Bool.false_eq_true]
    rw [← h1, covN_bx hn]
    unfold bx
    split
    · exact ⟨fun e => absurd e.symm (m1_ne (by omega)), fun e => absurd e (nI_pos (by omega))⟩
    · exact ⟨fun _ => by decide, fun _ => rfl⟩
def rdA (σ : SG) (p : Nat → Nat) (x : Int32) : Nat := if 0 ≤ x ∧ x < nI σ.n then p x.toNatClampNeg else 0
/-- whether a ride of this size fits at x, y -/
def gRm (σ : SG) (r a b w z : Nat) : Prop := (a + w ≤ 12 ∧ b + z < 10) ∧ σ.fre (12 * (b + z) + a + (w - 1) / 2) = true ∧ inn a b w z (12 * σ.gr) = false ∧ (∀ c, c < 120 → inn a b w z c = true → σ.fre c = true) ∧ ∀ q, q < σ.n → σ.li q < 240 → inn a b w z (σ.dr q) = false ∧ (σ.ns r + σ.ns q < 10 ∨ a + w + 2 ≤ px (σ.li q) ∨ px (σ.li q) + σ.wA q (σ.li q) + 2 ≤ a ∨ b + z + 2 ≤ py (σ.li q) ∨ py (σ.li q) + σ.hA q (σ.li q) + 2 ≤ b)
def gBar (σ : SG) (a b w z c : Nat) : Bool := !σ.fre c || inn a b w z c
def gFit (σ : SG) (r a b w z : Nat) : Prop := gRm σ r a b w z ∧ (∀ q, q < σ.n → σ.li q < 240 → RS (gBar σ a b w z) (12 * σ.gr) (σ.dr q)) ∧ RS (gBar σ a b w z) (12 * σ.gr) (12 * (b + z) + a + (w - 1) / 2)
theorem fit_g {σ : SG} {r p : Nat} : σ.fit r p ↔ gFit σ r (px p) (py p) (σ.wA r p) (σ.hA r p) := Iff.rfl
/-- a spot on trial: x, y any, wide and high small -/
def SpT (kd : Nat → Nat × Nat) (fi : Nat → Nat → Int32) (s : Nat) (x y : Int32) (w z : Nat) : Prop := kd s = (0, 4) ∧ fi 256 s = x ∧ fi 257 s = y ∧ fi 258 s = nI w ∧ fi 259 s = nI z ∧ (1 ≤ w ∧ w ≤ 4) ∧ 1 ≤ z ∧ z ≤ 4
theorem onG_iff {x y : Int32} {w z : Nat} (hw : w ≤ 4) (hz : z ≤ 4) : (0 ≤ x ∧ x < 12 ∧ 0 ≤ y ∧ y < 10 ∧ x + nI w ≤ 12 ∧ y + nI z < 10) ↔ ∃ a b, a < 12 ∧ b < 10 ∧ x = nI a ∧ y = nI b ∧ a + w ≤ 12 ∧ b + z < 10 := by
  constructor
  · rintro ⟨h1, h2, h3, h4, h5, h6⟩
    obtain ⟨a, b, ha, hb, rfl, rfl⟩ := hasC_of (x := x) (y := y) (by simp only [hasC, decide_eq_true_eq]; exact ⟨h1, h2, h3, h4⟩)
    rw [nI_add, show (12 : Int32) = nI 12 from rfl, nI_leI (by omega) (by omega)] at h5
    rw [nI_add, show (10 : Int32) = nI 10 from rfl, nI_ltI (by omega) (by omega)] at h6
    exact ⟨a, b, ha, hb, rfl, rfl, h5, h6⟩
  · rintro ⟨a, b, ha, hb, rfl, rfl, h5, h6⟩
    have := hasC_nI ha hb
    simp only [hasC, decide_eq_true_eq] at this
    refine ⟨this.1, this.2.1, this.2.2.1, this.2.2.2, ?_, ?_⟩
    · rw [nI_add]; exact nI_le (b := 12) h5 (by decide)
    · rw [nI_add]; exact nI_lt (b := 10) h6 (by decide)
theorem cov_iff {a b w z x y : Nat} (ha : a < 100) (hb : b < 100) (hw : w < 100) (hz : z < 100) (hx : x < 12) (hy : y < 100) : (nI a ≤ nI x ∧ nI x < nI a + nI w ∧ nI b ≤ nI y ∧ nI y < nI b + nI z) ↔ inn a b w z (12 * y + x) = true := by
  rw [nI_add, nI_add, nI_leI (by omega) (by omega), nI_ltI (by omega) (by omega), nI_leI (by omega) (by omega), nI_ltI (by omega) (by omega), inn_iff]
  omega

theorem find_of {x : Int32} {n : Nat} (hn : n ≤ 10) (h : 0 ≤ x ∧ x ≤ nI n - 1) : ∃ r, r < n ∧ x = nI r := by
  obtain ⟨j, hj, rfl⟩ := nI_of (Int32.not_lt.mpr h.1)
  have h2 := Int32.le_iff_toInt_le.mp h.2
  rw [toInt_m1 (by omega), nI_toInt hj] at h2
  exact ⟨j, by omega, rfl⟩
theorem find_le {x : Int32} {n : Nat} (hn : n ≤ 10) (h : 0 ≤ x ∧ x < nI n) : x ≤ nI n - 1 := by
  obtain ⟨r, hr, rfl⟩ := ride_of hn h
  rw [m1x _ (by omega)]; exact nI_le (by omega) (by omega)
theorem pl_m1 {x : Nat} : pl x = -1 ↔ ¬ x < 240 := by
  unfold pl; split
  · rename_i h; exact ⟨fun e => absurd e.symm (m1_ne (by omega)), fun e => absurd h e⟩
  · rename_i h; exact ⟨fun _ => h, fun _ => rfl⟩
theorem c_X6_isSize {G : GT} {h : HP} {w z : Int32} : Con G 2 0 0 yX6_isSize cX6_isSize 2 (some .boolean) [.int w, .int z] h (PI (fun r h' => b2i (decide ((1 ≤ w ∧ w ≤ 4) ∧ 1 ≤ z ∧ z ≤ 4)) = r ∧ h = h')) := by
  refine Con.of (lv := [some (.int w), some (.int z)]) (by decide) (by simp only [lvE_r, lvE_i, lvE_l, lvE_s, lvE_0]; rfl) (by simp only [lgl_r, lgl_i, lgl_l, lgl_s, lgl_0]; decide) (fun Γ C R => ?_)
  generalize hPP : (PI (fun r h' => b2i (decide ((1 ≤ w ∧ w ≤ 4) ∧ 1 ≤ z ∧ z ≤ 4)) = r ∧ h = h')) = PP
  refine r_iload_n (q := 1) (z := 0) C 0 rfl (by decide +kernel) rfl rfl ?_
  refine r_iconst (q := 2) (z := 1) (v := 1) C rfl (by decide +kernel) (by decide) ?_
  refine r_iconst (q := 3) (z := 4) (v := 4) C rfl (by decide +kernel) (by decide) ?_
  refine cS3I (q := 6) C R rfl (by decide +kernel) lk_X6_105 (c_X6_isWithin ) (by decide) (by decide) (by decide) rfl (by first | exact Nat.le_of_ble_eq_true rfl | (simp only [List.map_cons, List.map_nil, List.sum_cons, List.sum_nil, rv_cat]; exact Nat.le_of_ble_eq_true rfl))  ?_
  rintro _ _ ⟨rfl, rfl⟩
  refine r_if_eq (q := 9) (off := 16) (tgt := 22) C rfl (by decide +kernel) (by decide) (fun c6 => ?_) (fun c6 => ?_)
  · have c6 := of_decide_eq_false ((b2i_0 _).mp c6)
    refine r_iconst (q := 23) (z := 0) (v := 0) C rfl (by decide +kernel) (by decide) ?_
    exact r_zret C (by decide +kernel) rfl (by first | decide | exact b2i_nar _) (by decide) (by decide) (eqP hPP ⟨_, rfl, ⟨by clear C R; first | exact bf (fun e => c6 e.1) | exact bf (fun e => c15 e.2) | exact bt ⟨c6, c15⟩, rfl⟩⟩)
  · have c6 := of_decide_eq_true ((b2i_n0 _).mp c6)
    refine r_iload_n (q := 10) (z := 1) C 1 rfl (by decide +kernel) rfl rfl ?_
    refine r_iconst (q := 11) (z := 1) (v := 1) C rfl (by decide +kernel) (by decide) ?_
    refine r_iconst (q := 12) (z := 4) (v := 4) C rfl (by decide +kernel) (by decide) ?_
    refine cS3I (q := 15) C R rfl (by decide +kernel) lk_X6_105 (c_X6_isWithin ) (by decide) (by decide) (by decide) rfl (by first | exact Nat.le_of_ble_eq_true rfl | (simp only [List.map_cons, List.map_nil, List.sum_cons, List.sum_nil, rv_cat]; exact Nat.le_of_ble_eq_true rfl))  ?_
    rintro _ _ ⟨rfl, rfl⟩
    refine r_if_eq (q := 18) (off := 7) (tgt := 22) C rfl (by decide +kernel) (by decide) (fun c15 => ?_) (fun c15 => ?_)
    · have c15 := of_decide_eq_false ((b2i_0 _).mp c15)
      refine r_iconst (q := 23) (z := 0) (v := 0) C rfl (by decide +kernel) (by decide) ?_
      exact r_zret C (by decide +kernel) rfl (by first | decide | exact b2i_nar _) (by decide) (by decide) (eqP hPP ⟨_, rfl, ⟨by clear C R; first | exact bf (fun e => c6 e.1) | exact bf (fun e => c15 e.2) | exact bt ⟨c6, c15⟩, rfl⟩⟩)
    · have c15 := of_decide_eq_true ((b2i_n0 _).mp c15)
      refine r_iconst (q := 19) (z := 1) (v := 1) C rfl (by decide +kernel) (by decide) ?_
      refine r_goto (off := 4) (tgt := 23) C (by decide +kernel) (by decide) ?_
      exact r_zret C (by decide +kernel) rfl (by first | decide | exact b2i_nar _) (by decide) (by decide) (eqP hPP ⟨_, rfl, ⟨by clear C R; first | exact bf (fun e => c6 e.1) | exact bf (fun e => c15 e.2) | exact bt ⟨c6, c15⟩, rfl⟩⟩)
theorem c_X6_find {G : GT} {h : HP} {g : Nat} {σ : SG} {p : Nat → Nat} {L : List Nat} {x : Int32} (hL : LCl h.kd h.gl h.fr h.ar g σ.n p L) (R0 : CRr σ h.fi h.fr g p) (hn : σ.n ≤ 10) : Con G 2 0 0 yX6_find cX6_find 2 (some (.object "FairGround$Ride")) [rv g, .int x] h (PR (fun r h' => rdA σ p x = r ∧ h = h')) := by
  refine Con.of (lv := [some (rv g), some (.int x)]) (by decide) (by simp only [lvE_r, lvE_i, lvE_l, lvE_s, lvE_0]; rfl) (by simp only [lgl_r, lgl_i, lgl_l, lgl_s, lgl_0]; decide) (fun Γ C R => ?_)
  generalize hPP : (PR (fun r h' => rdA σ p x = r ∧ h = h')) = PP
  refine r_iload_n (q := 1) (z := 1) C 1 rfl (by decide +kernel) rfl rfl ?_
  refine r_iconst (q := 2) (z := 0) (v := 0) C rfl (by decide +kernel) (by decide) ?_
  refine r_aload_n (q := 3) (z := 0) C 0 rfl (by decide +kernel) rfl rfl ?_
  refine r_getI (q := 6) C 6 3 387 rfl (by decide +kernel) rfl (by decide) rfl rfl wf_X6_25 win6 hL.kf ?_
  rw [R0.1]
  refine r_iconst (q := 7) (z := 1) (v := 1) C rfl (by decide +kernel) (by decide) ?_
  refine r_isub (q := 8) C rfl (by decide +kernel) ?_
  refine cS3I (q := 11) C R rfl (by decide +kernel) lk_X6_105 (c_X6_isWithin ) (by decide) (by decide) (by decide) rfl (by first | exact Nat.le_of_ble_eq_true rfl | (simp only [List.map_cons, List.map_nil, List.sum_cons, List.sum_nil, rv_cat]; exact Nat.le_of_ble_eq_true rfl))  ?_
  rintro _ _ ⟨rfl, rfl⟩
  refine r_if_eq (q := 14) (off := 12) (tgt := 23) C rfl (by decide +kernel) (by decide) (fun c11 => ?_) (fun c11 => ?_)
  · have c11 := of_decide_eq_false ((b2i_0 _).mp c11)
    have hno : ¬ (0 ≤ x ∧ x < nI σ.n) := fun e => c11 ⟨e.1, find_le hn e⟩
    refine r_null (q := 24) C rfl (by decide +kernel) ?_
    exact r_aret C (by decide +kernel) rfl (by decide) (by decide) (eqP hPP ⟨_, rfl, (by first | exact ⟨by rw [rdA, if_neg hno], rfl⟩ | exact ⟨by rw [rdA, if_pos (ride_ok hn hlt), nI_clamp (by omega)], rfl⟩)⟩)
  · have c11 := of_decide_eq_true ((b2i_n0 _).mp c11)
    obtain ⟨r, hlt, rfl⟩ := find_of hn c11
    refine r_aload_n (q := 15) (z := 0) C 0 rfl (by decide +kernel) rfl rfl ?_
    refine r_getR (q := 18) C 6 1 385 rfl (by decide +kernel) rfl (by decide) rfl rfl wf_X6_18 win6 hL.kf ?_
    refine r_iload_n (q := 19) (z := 1) C 1 rfl (by decide +kernel) rfl rfl ?_
    refine r_aald (q := 20) C rfl (by decide +kernel) hL.k385 (vp_in_nI (by omega) (by decide)) ?_
    rw [nI_clamp (by omega), hL.ap hlt]
    refine r_goto (off := 4) (tgt := 24) C (by decide +kernel) (by decide) ?_
    exact r_aret C (by decide +kernel) rfl (by decide) (by decide) (eqP hPP ⟨_, rfl, (by first | exact ⟨by rw [rdA, if_neg hno], rfl⟩ | exact ⟨by rw [rdA, if_pos (ride_ok hn hlt), nI_clamp (by omega)], rfl⟩)⟩)
theorem c_X6_countLying {G : GT} {h : HP} {g : Nat} {σ : SG} {p : Nat → Nat} {L : List Nat}  (hL : LCl h.kd h.gl h.fr h.ar g σ.n p L) (R0 : CRr σ h.fi h.fr g p) (hn : σ.n ≤ 10) : Con G 1 0 0 yX6_countLying cX6_countLying 3 (some .int) [rv g] h (PI (fun v h' => nI (lyN σ σ.n) = v ∧ h = h')) := by
  refine Con.of (lv := [some (rv g), none, none]) (by decide) (by simp only [lvE_r, lvE_i, lvE_l, lvE_s, lvE_0]; rfl) (by simp only [lgl_r, lgl_i, lgl_l, lgl_s, lgl_0]; decide) (fun Γ C R => ?_)
  generalize hPP : (PI (fun v h' => nI (lyN σ σ.n) = v ∧ h = h')) = PP
  refine r_iconst (q := 1) (z := 0) (v := 0) C rfl (by decide +kernel) (by decide) ?_
  refine r_istore_n (q := 2) (z := 1) C 1 rfl (by decide +kernel) rfl (by decide) (by first | rfl | exact okst_rv rfl) ?_
  dsimp only [List.set]
  refine r_iconst (q := 3) (z := 0) (v := 0) C rfl (by decide +kernel) (by decide) ?_
  refine r_istore_n (q := 4) (z := 2) C 2 rfl (by decide +kernel) rfl (by decide) (by first | rfl | exact okst_rv rfl) ?_
  dsimp only [List.set]
  have L4 : ∀ (fuel4 : Nat) (k : Nat), σ.n - k < fuel4 → (k ≤ σ.n) → wX G Γ (qM G Γ PP 0 0) 0 0 (h) 4 [some (rv g), some (.int (nI (lyN σ k))), some (.int (nI k))] [] := by
    intro fuel4
    induction fuel4 with
    | zero =>
      intro k hm4
      exact absurd hm4 (Nat.not_lt_zero _)
    | succ fuel4 ih4 =>
      intro k hm4 hk
      refine r_iload_n (q := 5) (z := 2) C 2 rfl (by decide +kernel) rfl rfl ?_
      refine r_aload_n (q := 6) (z := 0) C 0 rfl (by decide +kernel) rfl rfl ?_
      refine r_getI (q := 9) C 6 3 387 rfl (by decide +kernel) rfl (by decide) rfl rfl wf_X6_25 win6 hL.kf ?_
      rw [R0.1]
      refine r_icmp_ge (q := 12) (off := 24) (tgt := 33) C rfl (by decide +kernel) (by decide) (fun c9 => ?_) (fun c9 => ?_)
      · have ek : k = σ.n := by have := (nI_leI (by omega) (by omega)).mp c9; omega
        subst ek
        refine r_iload_n (q := 34) (z := 1) C 1 rfl (by decide +kernel) rfl rfl ?_
        exact r_iret C (by decide +kernel) rfl (by decide) (by decide) (eqP hPP ⟨_, rfl, ⟨rfl, rfl⟩⟩)
      · have hlt : k < σ.n := Nat.lt_of_not_le (fun e => c9 (nI_le e (by omega)))
        refine r_aload_n (q := 13) (z := 0) C 0 rfl (by decide +kernel) rfl rfl ?_
        refine r_getR (q := 16) C 6 1 385 rfl (by decide +kernel) rfl (by decide) rfl rfl wf_X6_18 win6 hL.kf ?_
        refine r_iload_n (q := 17) (z := 2) C 2 rfl (by decide +kernel) rfl rfl ?_
        refine r_aald (q := 18) C rfl (by decide +kernel) hL.k385 (vp_in_nI (by omega) (by decide)) ?_
        rw [nI_clamp (by omega), hL.ap hlt]
        refine r_getI (q := 21) C 3 7 199 rfl (by decide +kernel) rfl (by decide) rfl rfl wf_X6_122 win3 (hL.kp hlt) ?_
        rw [R0.lie hlt]
        refine r_if_eq (q := 24) (off := 6) (tgt := 27) C rfl (by decide +kernel) (by decide) (fun c21 => ?_) (fun c21 => ?_)
        · rw [← lyN_n (of_decide_eq_false ((b2i_0 _).mp c21))]
          refine r_iinc (q := 30) (z := 1) (v := 1) C 2 rfl (by decide +kernel) rfl (by decide) (by decide) (by first | rfl | exact okst_rv rfl) ?_
          dsimp only [List.set]
          rw [nI_1]
          refine r_goto (off := -26) (tgt := 4) C (by decide +kernel) (by decide) ?_
          exact ih4 (k + 1) (by omega) (by omega)
        · refine r_iinc (q := 27) (z := 1) (v := 1) C 1 rfl (by decide +kernel) rfl (by decide) (by decide) (by first | rfl | exact okst_rv rfl) ?_
          dsimp only [List.set]
          rw [nI_1, ← lyN_y (of_decide_eq_true ((b2i_n0 _).mp c21))]
          refine r_iinc (q := 30) (z := 1) (v := 1) C 2 rfl (by decide +kernel) rfl (by decide) (by decide) (by first | rfl | exact okst_rv rfl) ?_
          dsimp only [List.set]
          rw [nI_1]
          refine r_goto (off := -26) (tgt := 4) C (by decide +kernel) (by decide) ?_
          exact ih4 (k + 1) (by omega) (by omega)
  exact L4 (σ.n + 1) 0 (by omega) (by omega)
theorem c_X6_countRights {G : GT} {h : HP} {g : Nat} {σ : SG} {p : Nat → Nat} {L : List Nat}  (hL : LCl h.kd h.gl h.fr h.ar g σ.n p L) (R0 : CRr σ h.fi h.fr g p) (hn : σ.n ≤ 10) : Con G 1 0 0 yX6_countRights cX6_countRights 3 (some .int) [rv g] h (PI (fun v h' => nI (rtN σ σ.n) = v ∧ h = h')) := by
  refine Con.of (lv := [some (rv g), none, none]) (by decide) (by simp only [lvE_r, lvE_i, lvE_l, lvE_s, lvE_0]; rfl) (by simp only [lgl_r, lgl_i, lgl_l, lgl_s, lgl_0]; decide) (fun Γ C R => ?_)
  generalize hPP : (PI (fun v h' => nI (rtN σ σ.n) = v ∧ h = h')) = PP
  refine r_iconst (q := 1) (z := 0) (v := 0) C rfl (by decide +kernel) (by decide) ?_
  refine r_istore_n (q := 2) (z := 1) C 1 rfl (by decide +kernel) rfl (by decide) (by first | rfl | exact okst_rv rfl) ?_
  dsimp only [List.set]
  refine r_iconst (q := 3) (z := 0) (v := 0) C rfl (by decide +kernel) (by decide) ?_
  refine r_istore_n (q := 4) (z := 2) C 2 rfl (by decide +kernel) rfl (by decide) (by first | rfl | exact okst_rv rfl) ?_
  dsimp only [List.set]
  have L4 : ∀ (fuel4 : Nat) (k : Nat), σ.n - k < fuel4 → (k ≤ σ.n) → wX G Γ (qM G Γ PP 0 0) 0 0 (h) 4 [some (rv g), some (.int (nI (rtN σ k))), some (.int (nI k))] [] := by
    intro fuel4
    induction fuel4 with
    | zero =>
      intro k hm4
      exact absurd hm4 (Nat.not_lt_zero _)
    | succ fuel4 ih4 =>
      intro k hm4 hk
      refine r_iload_n (q := 5) (z := 2) C 2 rfl (by decide +kernel) rfl rfl ?_
      refine r_aload_n (q := 6) (z := 0) C 0 rfl (by decide +kernel) rfl rfl ?_
      refine r_getI (q := 9) C 6 3 387 rfl (by decide +kernel) rfl (by decide) rfl rfl wf_X6_25 win6 hL.kf ?_
      rw [R0.1]
      refine r_icmp_ge (q := 12) (off := 25) (tgt := 34) C rfl (by decide +kernel) (by decide) (fun c9 => ?_) (fun c9 => ?_)
      · have ek : k = σ.n := by have := (nI_leI (by omega) (by omega)).mp c9; omega
        subst ek
        refine r_iload_n (q := 35) (z := 1) C 1 rfl (by decide +kernel) rfl rfl ?_
        exact r_iret C (by decide +kernel) rfl (by decide) (by decide) (eqP hPP ⟨_, rfl, ⟨rfl, rfl⟩⟩)
      · have hlt : k < σ.n := Nat.lt_of_not_le (fun e => c9 (nI_le e (by omega)))
        refine r_aload_n (q := 13) (z := 0) C 0 rfl (by decide +kernel) rfl rfl ?_
        refine r_getR (q := 16) C 6 1 385 rfl (by decide +kernel) rfl (by decide) rfl rfl wf_X6_18 win6 hL.kf ?_
        refine r_iload_n (q := 17) (z := 2) C 2 rfl (by decide +kernel) rfl rfl ?_
        refine r_aald (q := 18) C rfl (by decide +kernel) hL.k385 (vp_in_nI (by omega) (by decide)) ?_
        rw [nI_clamp (by omega), hL.ap hlt]
        refine r_getI (q := 21) C 3 9 201 rfl (by decide +kernel) rfl (by decide) rfl rfl wf_X6_147 win3 (hL.kp hlt) ?_
        rw [R0.rt hlt]
        refine r_iconst (q := 22) (z := (-1)) (v := (-1)) C rfl (by decide +kernel) (by decide) ?_
        refine r_icmp_eq (q := 25) (off := 6) (tgt := 28) C rfl (by decide +kernel) (by decide) (fun c22 => ?_) (fun c22 => ?_)
        · rw [← rtN_n (pl_m1.mp c22)]
          refine r_iinc (q := 31) (z := 1) (v := 1) C 2 rfl (by decide +kernel) rfl (by decide) (by decide) (by first | rfl | exact okst_rv rfl) ?_
          dsimp only [List.set]
          rw [nI_1]
          refine r_goto (off := -27) (tgt := 4) C (by decide +kernel) (by decide) ?_
          exact ih4 (k + 1) (by omega) (by omega)
        · refine r_iinc (q := 28) (z := 1) (v := 1) C 1 rfl (by decide +kernel) rfl (by decide) (by decide) (by first | rfl | exact okst_rv rfl) ?_
          dsimp only [List.set]
          rw [nI_1, ← rtN_y (Classical.not_not.mp (mt pl_m1.mpr c22))]
          refine r_iinc (q := 31) (z := 1) (v := 1) C 2 rfl (by decide +kernel) rfl (by decide) (by decide) (by first | rfl | exact okst_rv rfl) ?_
          dsimp only [List.set]
          rw [nI_1]
          refine r_goto (off := -27) (tgt := 4) C (by decide +kernel) (by decide) ?_
          exact ih4 (k + 1) (by omega) (by omega)
  exact L4 (σ.n + 1) 0 (by omega) (by omega)
theorem c_X6_isDoor {G : GT} {h : HP} {g : Nat} {σ : SG} {p : Nat → Nat} {L : List Nat} {x y : Int32} (hL : LCl h.kd h.gl h.fr h.ar g σ.n p L) (R0 : CRr σ h.fi h.fr g p) (W : WF σ) : Con G 2 0 0 yX6_isDoor cX6_isDoor 5 (some .boolean) [rv g, .int x, .int y] h (PI (fun v h' => ∃ t : Bool, b2i t = v ∧ (t = true ↔ ∃ r, r < σ.n ∧ σ.li r < 240 ∧ nI (σ.dX r) = x ∧ nI (σ.dY r) = y) ∧ h = h')) := by
  refine Con.of (lv := [some (rv g), some (.int x), some (.int y), none, none]) (by decide) (by simp only [lvE_r, lvE_i, lvE_l, lvE_s, lvE_0]; rfl) (by simp only [lgl_r, lgl_i, lgl_l, lgl_s, lgl_0]; decide) (fun Γ C R => ?_)
  generalize hPP : (PI (fun v h' => ∃ t : Bool, b2i t = v ∧ (t = true ↔ ∃ r, r < σ.n ∧ σ.li r < 240 ∧ nI (σ.dX r) = x ∧ nI (σ.dY r) = y) ∧ h = h')) = PP
  have r10 := W.n10
  refine r_iconst (q := 1) (z := 0) (v := 0) C rfl (by decide +kernel) (by decide) ?_
  refine r_istore_n (q := 2) (z := 3) C 3 rfl (by decide +kernel) rfl (by decide) (by first | rfl | exact okst_rv rfl) ?_
  dsimp only [List.set]
  have L2 : ∀ (fuel2 : Nat) (k : Nat), σ.n - k < fuel2 → (k ≤ σ.n) → (∀ r, r < k → ¬ (σ.li r < 240 ∧ nI (σ.dX r) = x ∧ nI (σ.dY r) = y)) → wX G Γ (qM G Γ PP 0 0) 0 0 (h) 2 [some (rv g), some (.int x), some (.int y), some (.int (nI k)), none] [] := by
    intro fuel2
    induction fuel2 with
    | zero =>
      intro k hm2
      exact absurd hm2 (Nat.not_lt_zero _)
    | succ fuel2 ih2 =>
      intro k hm2 hk hno
      refine r_iload_n (q := 3) (z := 3) C 3 rfl (by decide +kernel) rfl rfl ?_
      refine r_aload_n (q := 4) (z := 0) C 0 rfl (by decide +kernel) rfl rfl ?_
      refine r_getI (q := 7) C 6 3 387 rfl (by decide +kernel) rfl (by decide) rfl rfl wf_X6_25 win6 hL.kf ?_
      rw [R0.1]
      refine r_icmp_ge (q := 10) (off := 51) (tgt := 58) C rfl (by decide +kernel) (by decide) (fun c7 => ?_) (fun c7 => ?_)
      · have ek : k = σ.n := by have := (nI_leI (by omega) (by omega)).mp c7; omega
        subst ek
        refine r_iconst (q := 59) (z := 0) (v := 0) C rfl (by decide +kernel) (by decide) ?_
        exact r_zret C (by decide +kernel) rfl (by first | decide | exact b2i_nar _) (by decide) (by decide) (eqP hPP ⟨_, rfl, ⟨false, rfl, ⟨(fun e => nomatch e), fun ⟨r, e1, e2⟩ => absurd e2 (hno r e1)⟩, rfl⟩⟩)
      · have hlt : k < σ.n := Nat.lt_of_not_le (fun e => c7 (nI_le e (by omega)))
        refine r_aload_n (q := 11) (z := 0) C 0 rfl (by decide +kernel) rfl rfl ?_
        refine r_getR (q := 14) C 6 1 385 rfl (by decide +kernel) rfl (by decide) rfl rfl wf_X6_18 win6 hL.kf ?_
        refine r_iload_n (q := 15) (z := 3) C 3 rfl (by decide +kernel) rfl rfl ?_
        refine r_aald (q := 16) C rfl (by decide +kernel) hL.k385 (vp_in_nI (by omega) (by decide)) ?_
        rw [nI_clamp (by omega), hL.ap hlt]
        refine r_astore (q := 18) C 4 rfl (by decide +kernel) (by decide) (by first | rfl | exact okst_rv rfl) ?_
        dsimp only [List.set]
        refine r_aload (q := 20) C 4 rfl (by decide +kernel) rfl ?_
        refine r_getI (q := 23) C 3 7 199 rfl (by decide +kernel) rfl (by decide) rfl rfl wf_X6_122 win3 (hL.kp hlt) ?_
        rw [R0.lie hlt]
        refine r_if_eq (q := 26) (off := 29) (tgt := 52) C rfl (by decide +kernel) (by decide) (fun c23 => ?_) (fun c23 => ?_)
        · have hno2 : ∀ r, r < k + 1 → ¬ (σ.li r < 240 ∧ nI (σ.dX r) = x ∧ nI (σ.dY r) = y) := fun r hr e => by
            by_cases er : r = k
            · subst er; exact of_decide_eq_false ((b2i_0 _).mp c23) e.1
            · exact hno r (by omega) e
          refine r_iinc (q := 55) (z := 1) (v := 1) C 3 rfl (by decide +kernel) rfl (by decide) (by decide) (by first | rfl | exact okst_rv rfl) ?_
          dsimp only [List.set]
          rw [nI_1]
          refine r_goto (off := -53) (tgt := 2) C (by decide +kernel) (by decide) ?_
          exact wX.sub (lsub_s (lsub_s (lsub_s (lsub_s (lsub_n (lsub_nil)))))) (ih2 (k + 1) (by omega) (by omega) hno2)
        · have hl := of_decide_eq_true ((b2i_n0 _).mp c23)
          refine r_aload (q := 28) C 4 rfl (by decide +kernel) rfl ?_
          refine r_getR (q := 31) C 3 6 198 rfl (by decide +kernel) rfl (by decide) rfl rfl wf_X6_221 win3 (hL.kp hlt) ?_
          refine cV0I (q := 34) C R rfl (by decide +kernel) lk_X6_230 (c_X4_doorX (hL.ks hlt)) (by decide) (by decide) (by decide) rfl (by first | exact Nat.le_of_ble_eq_true rfl | (simp only [List.map_cons, List.map_nil, List.sum_cons, List.sum_nil, rv_cat]; exact Nat.le_of_ble_eq_true rfl)) rfl (hL.ks hlt) ?_
          rintro _ _ ⟨rfl, rfl⟩
          rw [R0.dx W hlt hl]
          refine r_iload_n (q := 35) (z := 1) C 1 rfl (by decide +kernel) rfl rfl ?_
          refine r_icmp_ne (q := 38) (off := 17) (tgt := 52) C rfl (by decide +kernel) (by decide) (fun c35 => ?_) (fun c35 => ?_)
          · have hno2 : ∀ r, r < k + 1 → ¬ (σ.li r < 240 ∧ nI (σ.dX r) = x ∧ nI (σ.dY r) = y) := fun r hr e => by
              by_cases er : r = k
              · subst er; exact c35 e.2.1
              · exact hno r (by omega) e
            refine r_iinc (q := 55) (z := 1) (v := 1) C 3 rfl (by decide +kernel) rfl (by decide) (by decide) (by first | rfl | exact okst_rv rfl) ?_
            dsimp only [List.set]
            rw [nI_1]
            refine r_goto (off := -53) (tgt := 2) C (by decide +kernel) (by decide) ?_
            exact wX.sub (lsub_s (lsub_s (lsub_s (lsub_s (lsub_n (lsub_nil)))))) (ih2 (k + 1) (by omega) (by omega) hno2)
          · refine r_aload (q := 40) C 4 rfl (by decide +kernel) rfl ?_
            refine r_getR (q := 43) C 3 6 198 rfl (by decide +kernel) rfl (by decide) rfl rfl wf_X6_221 win3 (hL.kp hlt) ?_
            refine cV0I (q := 46) C R rfl (by decide +kernel) lk_X6_227 (c_X4_doorY (hL.ks hlt)) (by decide) (by decide) (by decide) rfl (by first | exact Nat.le_of_ble_eq_true rfl | (simp only [List.map_cons, List.map_nil, List.sum_cons, List.sum_nil, rv_cat]; exact Nat.le_of_ble_eq_true rfl)) rfl (hL.ks hlt) ?_
            rintro _ _ ⟨rfl, rfl⟩
            rw [R0.dy hlt hl]
            refine r_iload_n (q := 47) (z := 2) C 2 rfl (by decide +kernel) rfl rfl ?_
            refine r_icmp_ne (q := 50) (off := 5) (tgt := 52) C rfl (by decide +kernel) (by decide) (fun c47 => ?_) (fun c47 => ?_)
            · have hno2 : ∀ r, r < k + 1 → ¬ (σ.li r < 240 ∧ nI (σ.dX r) = x ∧ nI (σ.dY r) = y) := fun r hr e => by
                by_cases er : r = k
                · subst er; exact c47 e.2.2
                · exact hno r (by omega) e
              refine r_iinc (q := 55) (z := 1) (v := 1) C 3 rfl (by decide +kernel) rfl (by decide) (by decide) (by first | rfl | exact okst_rv rfl) ?_
              dsimp only [List.set]
              rw [nI_1]
              refine r_goto (off := -53) (tgt := 2) C (by decide +kernel) (by decide) ?_
              exact wX.sub (lsub_s (lsub_s (lsub_s (lsub_s (lsub_n (lsub_nil)))))) (ih2 (k + 1) (by omega) (by omega) hno2)
            · refine r_iconst (q := 51) (z := 1) (v := 1) C rfl (by decide +kernel) (by decide) ?_
              exact r_zret C (by decide +kernel) rfl (by first | decide | exact b2i_nar _) (by decide) (by decide) (eqP hPP ⟨_, rfl, ⟨true, rfl, ⟨fun _ => ⟨k, hlt, hl, c35, c47⟩, fun _ => rfl⟩, rfl⟩⟩)
  exact wX.sub (lsub_s (lsub_s (lsub_s (lsub_s (lsub_n (lsub_nil)))))) (L2 (σ.n + 1) 0 (by omega) (by omega) (fun r hr => absurd hr (Nat.not_lt_zero r)))
theorem c_X6_areDoorsJoined {G : GT} {h : HP} {g : Nat} {σ : SG} {p : Nat → Nat} {L : List Nat} {bar : Nat → Bool} (hL : LCl h.kd h.gl h.fr h.ar g σ.n p L) (R0 : CRr σ h.fi h.fr g p) (W : WF σ) (hc : ∀ c, c < 120 → (h.ai (h.fr 0 (h.fr 384 g)) c = -1 ↔ bar c = false)) : Con G 5 0 0 yX6_areDoorsJoined cX6_areDoorsJoined 3 (some .boolean) [rv g] h (PI (fun v h' => ∃ (t : Bool) (f q : Nat → Int32) (k : Nat), b2i t = v ∧ bst h (h.fr 384 g) f q k = h' ∧ (∀ c, c < 120 → (f c = 1 ↔ RS bar (12 * σ.gr) c)) ∧ (t = true ↔ ∀ q, q < σ.n → σ.li q < 240 → RS bar (12 * σ.gr) (σ.dr q)))) := by
  refine Con.of (lv := [some (rv g), none, none]) (by decide) (by simp only [lvE_r, lvE_i, lvE_l, lvE_s, lvE_0]; rfl) (by simp only [lgl_r, lgl_i, lgl_l, lgl_s, lgl_0]; decide) (fun Γ C R => ?_)
  generalize hPP : (PI (fun v h' => ∃ (t : Bool) (f q : Nat → Int32) (k : Nat), b2i t = v ∧ bst h (h.fr 384 g) f q k = h' ∧ (∀ c, c < 120 → (f c = 1 ↔ RS bar (12 * σ.gr) c)) ∧ (t = true ↔ ∀ q, q < σ.n → σ.li q < 240 → RS bar (12 * σ.gr) (σ.dr q)))) = PP
  have r10 := W.n10
  have g10 := W.gr10
  obtain ⟨g1, g2, g3, g4, g5, g6, g7⟩ := id hL.gn
  have hn12 : h.fr 1 (h.fr 384 g) ≠ h.fr 2 (h.fr 384 g) := gl_ne g6 g7 (by decide)
  refine r_aload_n (q := 1) (z := 0) C 0 rfl (by decide +kernel) rfl rfl ?_
  refine r_getR (q := 4) C 6 0 384 rfl (by decide +kernel) rfl (by decide) rfl rfl wf_X6_10 win6 hL.kf ?_
  refine cV0V (q := 7) C R rfl (by decide +kernel) lk_X6_247 (c_X0_spreadFromGate (bar := bar) hL.gn R0.2.2.1 g10 hc) (by decide) (by decide) (by decide) rfl (by first | exact Nat.le_of_ble_eq_true rfl | (simp only [List.map_cons, List.map_nil, List.sum_cons, List.sum_nil, rv_cat]; exact Nat.le_of_ble_eq_true rfl)) rfl hL.kg ?_
  rintro _ ⟨f4, q4, k4, rfl, hz4, hr4⟩
  refine r_iconst (q := 8) (z := 0) (v := 0) C rfl (by decide +kernel) (by decide) ?_
  refine r_istore_n (q := 9) (z := 1) C 1 rfl (by decide +kernel) rfl (by decide) (by first | rfl | exact okst_rv rfl) ?_
  dsimp only [List.set]
  have L9 : ∀ (fuel9 : Nat) (k : Nat), σ.n - k < fuel9 → (k ≤ σ.n) → (∀ q, q < k → σ.li q < 240 → RS bar (12 * σ.gr) (σ.dr q)) → wX G Γ (qM G Γ PP 0 0) 0 0 (bst h (h.fr 384 g) f4 q4 k4) 9 [some (rv g), some (.int (nI k)), none] [] := by
    intro fuel9
    induction fuel9 with
    | zero =>
      intro k hm9
      exact absurd hm9 (Nat.not_lt_zero _)
    | succ fuel9 ih9 =>
      intro k hm9 hk hy
      refine r_iload_n (q := 10) (z := 1) C 1 rfl (by decide +kernel) rfl rfl ?_
      refine r_aload_n (q := 11) (z := 0) C 0 rfl (by decide +kernel) rfl rfl ?_
      refine r_getI (q := 14) C 6 3 387 rfl (by decide +kernel) rfl (by decide) rfl rfl wf_X6_25 win6 hL.kf ?_
      rw [bst_fi (by decide), R0.1]
      refine r_icmp_ge (q := 17) (off := 49) (tgt := 63) C rfl (by decide +kernel) (by decide) (fun c14 => ?_) (fun c14 => ?_)
      · have ek : k = σ.n := by have := (nI_leI (by omega) (by omega)).mp c14; omega
        subst ek
        refine r_iconst (q := 64) (z := 1) (v := 1) C rfl (by decide +kernel) (by decide) ?_
        exact r_zret C (by decide +kernel) rfl (by first | decide | exact b2i_nar _) (by decide) (by decide) (eqP hPP ⟨_, rfl, ⟨true, _, _, _, rfl, rfl, hr4, ⟨fun _ => hy, fun _ => rfl⟩⟩⟩)
      · have hlt : k < σ.n := Nat.lt_of_not_le (fun e => c14 (nI_le e (by omega)))
        refine r_aload_n (q := 18) (z := 0) C 0 rfl (by decide +kernel) rfl rfl ?_
        refine r_getR (q := 21) C 6 1 385 rfl (by decide +kernel) rfl (by decide) rfl rfl wf_X6_18 win6 hL.kf ?_
        refine r_iload_n (q := 22) (z := 1) C 1 rfl (by decide +kernel) rfl rfl ?_
        refine r_aald (q := 23) C rfl (by decide +kernel) hL.k385 (vp_in_nI (by omega) (by decide)) ?_
        rw [nI_clamp (by omega), bst_ar, bst_fr, hL.ap hlt]
        refine r_astore_n (q := 24) (z := 2) C 2 rfl (by decide +kernel) rfl (by decide) (by first | rfl | exact okst_rv rfl) ?_
        dsimp only [List.set]
        refine r_aload_n (q := 25) (z := 2) C 2 rfl (by decide +kernel) rfl rfl ?_
        refine r_getI (q := 28) C 3 7 199 rfl (by decide +kernel) rfl (by decide) rfl rfl wf_X6_122 win3 (hL.kp hlt) ?_
        rw [bst_fi (by decide), R0.lie hlt]
        refine r_if_eq (q := 31) (off := 29) (tgt := 57) C rfl (by decide +kernel) (by decide) (fun c28 => ?_) (fun c28 => ?_)
        · have hy2 : ∀ q, q < k + 1 → σ.li q < 240 → RS bar (12 * σ.gr) (σ.dr q) := fun q hq hl => by
            by_cases er : q = k
            · subst er; exact absurd hl (of_decide_eq_false ((b2i_0 _).mp c28))
            · exact hy q (by omega) hl
          refine r_iinc (q := 60) (z := 1) (v := 1) C 1 rfl (by decide +kernel) rfl (by decide) (by decide) (by first | rfl | exact okst_rv rfl) ?_
          dsimp only [List.set]
          rw [nI_1]
          refine r_goto (off := -51) (tgt := 9) C (by decide +kernel) (by decide) ?_
          exact wX.sub (lsub_s (lsub_s (lsub_n (lsub_nil)))) (ih9 (k + 1) (by omega) (by omega) hy2)
        · have hl := of_decide_eq_true ((b2i_n0 _).mp c28)
          have hxy := W.dxy hlt hl
          refine r_aload_n (q := 32) (z := 0) C 0 rfl (by decide +kernel) rfl rfl ?_
          refine r_getR (q := 35) C 6 0 384 rfl (by decide +kernel) rfl (by decide) rfl rfl wf_X6_10 win6 hL.kf ?_
          refine r_aload_n (q := 36) (z := 2) C 2 rfl (by decide +kernel) rfl rfl ?_
          refine r_getR (q := 39) C 3 6 198 rfl (by decide +kernel) rfl (by decide) rfl rfl wf_X6_221 win3 (hL.kp hlt) ?_
          refine cV0I (q := 42) C R rfl (by decide +kernel) lk_X6_230 (c_X4_doorX (hL.ks hlt)) (by decide) (by decide) (by decide) rfl (by first | exact Nat.le_of_ble_eq_true rfl | (simp only [List.map_cons, List.map_nil, List.sum_cons, List.sum_nil, rv_cat]; exact Nat.le_of_ble_eq_true rfl)) rfl (hL.ks hlt) ?_
          rintro _ _ ⟨rfl, rfl⟩
          rw [bst_fi (by decide), bst_fi (by decide), bst_fr, R0.dx W hlt hl]
          refine r_aload_n (q := 43) (z := 2) C 2 rfl (by decide +kernel) rfl rfl ?_
          refine r_getR (q := 46) C 3 6 198 rfl (by decide +kernel) rfl (by decide) rfl rfl wf_X6_221 win3 (hL.kp hlt) ?_
          refine cV0I (q := 49) C R rfl (by decide +kernel) lk_X6_227 (c_X4_doorY (hL.ks hlt)) (by decide) (by decide) (by decide) rfl (by first | exact Nat.le_of_ble_eq_true rfl | (simp only [List.map_cons, List.map_nil, List.sum_cons, List.sum_nil, rv_cat]; exact Nat.le_of_ble_eq_true rfl)) rfl (hL.ks hlt) ?_
          rintro _ _ ⟨rfl, rfl⟩
          rw [bst_fi (by decide), bst_fi (by decide), bst_fr, R0.dy hlt hl]
          refine cV2I (q := 52) C R rfl (by decide +kernel) lk_X6_250 (c_X0_isReached g1 g3) (by decide) (by decide) (by decide) rfl (by first | exact Nat.le_of_ble_eq_true rfl | (simp only [List.map_cons, List.map_nil, List.sum_cons, List.sum_nil, rv_cat]; exact Nat.le_of_ble_eq_true rfl)) rfl hL.kg ?_
          rintro _ _ ⟨rfl, rfl⟩
          rw [hasC_nI hxy.1 hxy.2, Bool.true_and, cIx, nI_clamp (by omega), bst_fr, bst_ai1 hn12, ← dr_xy]
          refine r_if_ne (q := 55) (off := 5) (tgt := 57) C rfl (by decide +kernel) (by decide) (fun c52 => ?_) (fun c52 => ?_)
          · have hy2 : ∀ q, q < k + 1 → σ.li q < 240 → RS bar (12 * σ.gr) (σ.dr q) := fun q hq hl2 => by
              by_cases er : q = k
              · subst er; exact (hr4 _ (W.dr hlt hl)).mp (of_decide_eq_true ((b2i_n0 _).mp c52))
              · exact hy q (by omega) hl2
            refine r_iinc (q := 60) (z := 1) (v := 1) C 1 rfl (by decide +kernel) rfl (by decide) (by decide) (by first | rfl | exact okst_rv rfl) ?_
            dsimp only [List.set]
            rw [nI_1]
            refine r_goto (off := -51) (tgt := 9) C (by decide +kernel) (by decide) ?_
            exact wX.sub (lsub_s (lsub_s (lsub_n (lsub_nil)))) (ih9 (k + 1) (by omega) (by omega) hy2)
          · have hno : ¬ RS bar (12 * σ.gr) (σ.dr k) := fun e => of_decide_eq_false ((b2i_0 _).mp c52) ((hr4 _ (W.dr hlt hl)).mpr e)
            refine r_iconst (q := 56) (z := 0) (v := 0) C rfl (by decide +kernel) (by decide) ?_
            exact r_zret C (by decide +kernel) rfl (by first | decide | exact b2i_nar _) (by decide) (by decide) (eqP hPP ⟨_, rfl, ⟨false, _, _, _, rfl, rfl, hr4, ⟨(fun e => nomatch e), fun e => absurd (e k hlt hl) hno⟩⟩⟩)
  exact wX.sub (lsub_s (lsub_s (lsub_n (lsub_nil)))) (L9 (σ.n + 1) 0 (by omega) (by omega) (fun q hq => absurd hq (Nat.not_lt_zero q)))
