def RG : String := "RatchetGroup"
def FG : u_T := fun k => match k with
  | 0 => ("RatchetGroup", "secrets", "LRatchetGroup$Secrets;", true)
  | 1 => ("RatchetGroup", "members", "[LRatchetGroup$Member;", true)
  | 2 => ("RatchetGroup", "epochs", "[LRatchetGroup$Epoch;", true)
  | 3 => ("RatchetGroup", "epochCount", "I", false)
  | 4 => ("RatchetGroup", "packages", "[LRatchetGroup$KeyPackage;", true)
  | 5 => ("RatchetGroup", "packageCount", "I", false)
  | 6 => ("RatchetGroup", "proposals", "[LRatchetGroup$Proposal;", true)
  | 7 => ("RatchetGroup", "proposalCount", "I", false)
  | 8 => ("RatchetGroup", "owners", "[I", true)
  | _ => ("RatchetGroup", "held", "[I", true)
def tG : Nat → FieldType := fun k => match k with
  | 0 => (.object "RatchetGroup$Secrets")
  | 1 => (.array (.object "RatchetGroup$Member"))
  | 2 => (.array (.object "RatchetGroup$Epoch"))
  | 3 => .int
  | 4 => (.array (.object "RatchetGroup$KeyPackage"))
  | 5 => .int
  | 6 => (.array (.object "RatchetGroup$Proposal"))
  | 7 => .int
  | 8 => (.array .int)
  | _ => (.array .int)
theorem nG : ∀ a, a < 10 → ∀ b, b < 10 → a ≠ b → (FG a).2.1 ≠ (FG b).2.1 := by decide +kernel
theorem tG_ok : ∀ k, k < 10 → parseFieldDescriptor (FG k).2.2.1 = some (tG k) := by decide +kernel
def RS : String := "RatchetGroup$Secrets"
def FS : u_T := fun k => match k with
  | 0 => ("RatchetGroup$Secrets", "out", "[B", false)
  | 1 => ("RatchetGroup$Secrets", "made", "I", false)
  | 2 => ("RatchetGroup$Secrets", "from", "[I", false)
  | 3 => ("RatchetGroup$Secrets", "also", "[I", false)
  | 4 => ("RatchetGroup$Secrets", "to", "[I", false)
  | _ => ("RatchetGroup$Secrets", "rules", "I", false)
def tS : Nat → FieldType := fun k => match k with
  | 0 => (.array .byte)
  | 1 => .int
  | 2 => (.array .int)
  | 3 => (.array .int)
  | 4 => (.array .int)
  | _ => .int
theorem nS : ∀ a, a < 6 → ∀ b, b < 6 → a ≠ b → (FS a).2.1 ≠ (FS b).2.1 := by decide +kernel
theorem tS_ok : ∀ k, k < 6 → parseFieldDescriptor (FS k).2.2.1 = some (tS k) := by decide +kernel
def RB : String := "RatchetGroup$Member"
def FB : u_T := fun k => match k with
  | 0 => ("RatchetGroup$Member", "epoch", "I", false)
  | 1 => ("RatchetGroup$Member", "leaf", "I", false)
  | 2 => ("RatchetGroup$Member", "secret", "I", false)
  | 3 => ("RatchetGroup$Member", "stuckCount", "I", false)
  | 4 => ("RatchetGroup$Member", "keys", "[I", true)
  | 5 => ("RatchetGroup$Member", "updates", "[I", true)
  | _ => ("RatchetGroup$Member", "updateCount", "I", false)
def tB : Nat → FieldType := fun k => match k with
  | 0 => .int
  | 1 => .int
  | 2 => .int
  | 3 => .int
  | 4 => (.array .int)
  | 5 => (.array .int)
  | _ => .int
theorem nB : ∀ a, a < 7 → ∀ b, b < 7 → a ≠ b → (FB a).2.1 ≠ (FB b).2.1 := by decide +kernel
theorem tB_ok : ∀ k, k < 7 → parseFieldDescriptor (FB k).2.2.1 = some (tB k) := by decide +kernel
def RE : String := "RatchetGroup$Epoch"
def FE : u_T := fun k => match k with
  | 0 => ("RatchetGroup$Epoch", "number", "I", true)
  | 1 => ("RatchetGroup$Epoch", "tree", "LRatchetGroup$Tree;", true)
  | 2 => ("RatchetGroup$Epoch", "committerLeaf", "I", true)
  | 3 => ("RatchetGroup$Epoch", "secret", "I", false)
  | 4 => ("RatchetGroup$Epoch", "counting", "I", false)
  | 5 => ("RatchetGroup$Epoch", "removed", "I", false)
  | 6 => ("RatchetGroup$Epoch", "updated", "I", false)
  | 7 => ("RatchetGroup$Epoch", "added", "I", false)
  | _ => ("RatchetGroup$Epoch", "encrypted", "I", false)
def tE : Nat → FieldType := fun k => match k with
  | 0 => .int
  | 1 => (.object "RatchetGroup$Tree")
  | 2 => .int
  | 3 => .int
  | 4 => .int
  | 5 => .int
  | 6 => .int
  | 7 => .int
  | _ => .int
theorem nE : ∀ a, a < 9 → ∀ b, b < 9 → a ≠ b → (FE a).2.1 ≠ (FE b).2.1 := by decide +kernel
theorem tE_ok : ∀ k, k < 9 → parseFieldDescriptor (FE k).2.2.1 = some (tE k) := by decide +kernel
def RT : String := "RatchetGroup$Tree"
def FT : u_T := fun k => match k with
  | 0 => ("RatchetGroup$Tree", "depth", "I", false)
  | 1 => ("RatchetGroup$Tree", "keys", "[I", true)
  | 2 => ("RatchetGroup$Tree", "born", "[I", true)
  | _ => ("RatchetGroup$Tree", "unmerged", "[I", true)
def tT : Nat → FieldType := fun k => match k with
  | 0 => .int
  | 1 => (.array .int)
  | 2 => (.array .int)
  | _ => (.array .int)
theorem nT : ∀ a, a < 4 → ∀ b, b < 4 → a ≠ b → (FT a).2.1 ≠ (FT b).2.1 := by decide +kernel
theorem tT_ok : ∀ k, k < 4 → parseFieldDescriptor (FT k).2.2.1 = some (tT k) := by decide +kernel
def RK : String := "RatchetGroup$KeyPackage"
def FK : u_T := fun k => match k with
  | 0 => ("RatchetGroup$KeyPackage", "member", "I", true)
  | 1 => ("RatchetGroup$KeyPackage", "firstKey", "I", true)
  | 2 => ("RatchetGroup$KeyPackage", "leafKey", "I", true)
  | 3 => ("RatchetGroup$KeyPackage", "epoch", "I", false)
  | 4 => ("RatchetGroup$KeyPackage", "leaf", "I", false)
  | _ => ("RatchetGroup$KeyPackage", "joined", "Z", false)
def tK : Nat → FieldType := fun k => match k with
  | 0 => .int
  | 1 => .int
  | 2 => .int
  | 3 => .int
  | 4 => .int
  | _ => .boolean
theorem nK : ∀ a, a < 6 → ∀ b, b < 6 → a ≠ b → (FK a).2.1 ≠ (FK b).2.1 := by decide +kernel
theorem tK_ok : ∀ k, k < 6 → parseFieldDescriptor (FK k).2.2.1 = some (tK k) := by decide +kernel
def RP : String := "RatchetGroup$Proposal"
def FP : u_T := fun k => match k with
  | 0 => ("RatchetGroup$Proposal", "kind", "I", true)
  | 1 => ("RatchetGroup$Proposal", "about", "I", true)
  | _ => ("RatchetGroup$Proposal", "key", "I", true)
def tP : Nat → FieldType := fun k => match k with
  | 0 => .int
  | 1 => .int
  | _ => .int
theorem nP : ∀ a, a < 3 → ∀ b, b < 3 → a ≠ b → (FP a).2.1 ≠ (FP b).2.1 := by decide +kernel
theorem tP_ok : ∀ k, k < 3 → parseFieldDescriptor (FP k).2.2.1 = some (tP k) := by decide +kernel
def RR : String := "RatchetGroupModel"
def FR : u_T := fun k => match k with
  | 0 => ("RatchetGroupModel", "thrown", "I", false)
  | 1 => ("RatchetGroupModel", "secrets", "I", false)
  | 2 => ("RatchetGroupModel", "kinds", "[I", true)
  | 3 => ("RatchetGroupModel", "firsts", "[I", true)
  | 4 => ("RatchetGroupModel", "seconds", "[I", true)
  | 5 => ("RatchetGroupModel", "taken", "[Z", true)
  | 6 => ("RatchetGroupModel", "known", "[Z", true)
  | 7 => ("RatchetGroupModel", "encrypted", "I", false)
  | 8 => ("RatchetGroupModel", "encryptedFor", "[I", true)
  | 9 => ("RatchetGroupModel", "encryptedWhat", "[I", true)
  | 10 => ("RatchetGroupModel", "encryptedIn", "[I", true)
  | 11 => ("RatchetGroupModel", "encryptedAt", "[I", true)
  | 12 => ("RatchetGroupModel", "epochs", "I", false)
  | 13 => ("RatchetGroupModel", "depth", "[I", true)
  | 14 => ("RatchetGroupModel", "secret", "[I", true)
  | 15 => ("RatchetGroupModel", "committer", "[I", true)
  | 16 => ("RatchetGroupModel", "counting", "[I", true)
  | 17 => ("RatchetGroupModel", "removed", "[I", true)
  | 18 => ("RatchetGroupModel", "updated", "[I", true)
  | 19 => ("RatchetGroupModel", "added", "[I", true)
  | 20 => ("RatchetGroupModel", "sent", "[I", true)
  | 21 => ("RatchetGroupModel", "withPath", "[Z", true)
  | 22 => ("RatchetGroupModel", "keys", "[I", true)
  | 23 => ("RatchetGroupModel", "unmerged", "[I", true)
  | 24 => ("RatchetGroupModel", "since", "[I", true)
  | 25 => ("RatchetGroupModel", "paths", "[I", true)
  | 26 => ("RatchetGroupModel", "owners", "[I", true)
  | 27 => ("RatchetGroupModel", "at", "[I", true)
  | 28 => ("RatchetGroupModel", "leaf", "[I", true)
  | 29 => ("RatchetGroupModel", "leafKey", "[I", true)
  | 30 => ("RatchetGroupModel", "stuck", "[I", true)
  | 31 => ("RatchetGroupModel", "updates", "[I", true)
  | 32 => ("RatchetGroupModel", "has", "[Z", true)
  | 33 => ("RatchetGroupModel", "nodeKeys", "[I", true)
  | 34 => ("RatchetGroupModel", "updateKeys", "[I", true)
  | 35 => ("RatchetGroupModel", "packages", "I", false)
  | 36 => ("RatchetGroupModel", "packageOf", "[I", true)
  | 37 => ("RatchetGroupModel", "firstKey", "[I", true)
  | 38 => ("RatchetGroupModel", "secondKey", "[I", true)
  | 39 => ("RatchetGroupModel", "usedIn", "[I", true)
  | 40 => ("RatchetGroupModel", "usedAt", "[I", true)
  | 41 => ("RatchetGroupModel", "joined", "[Z", true)
  | 42 => ("RatchetGroupModel", "waiting", "I", false)
  | 43 => ("RatchetGroupModel", "proposed", "[I", true)
  | 44 => ("RatchetGroupModel", "proposer", "[I", true)
  | 45 => ("RatchetGroupModel", "proposal", "[I", true)
  | 46 => ("RatchetGroupModel", "held", "I", false)
  | 47 => ("RatchetGroupModel", "holding", "[I", true)
  | 48 => ("RatchetGroupModel", "resolved", "I", false)
  | 49 => ("RatchetGroupModel", "resolution", "[I", true)
  | 50 => ("RatchetGroupModel", "open", "[I", true)
  | _ => ("RatchetGroupModel", "newKeys", "[I", true)
def tR : Nat → FieldType := fun k => match k with
  | 0 => .int
  | 1 => .int
  | 2 => (.array .int)
  | 3 => (.array .int)
  | 4 => (.array .int)
  | 5 => (.array .boolean)
  | 6 => (.array .boolean)
  | 7 => .int
  | 8 => (.array .int)
  | 9 => (.array .int)
  | 10 => (.array .int)
  | 11 => (.array .int)
  | 12 => .int
  | 13 => (.array .int)
  | 14 => (.array .int)
  | 15 => (.array .int)
  | 16 => (.array .int)
  | 17 => (.array .int)
  | 18 => (.array .int)
  | 19 => (.array .int)
  | 20 => (.array .int)
  | 21 => (.array .boolean)
  | 22 => (.array .int)
  | 23 => (.array .int)
  | 24 => (.array .int)
  | 25 => (.array .int)
  | 26 => (.array .int)
  | 27 => (.array .int)
  | 28 => (.array .int)
  | 29 => (.array .int)
  | 30 => (.array .int)
  | 31 => (.array .int)
  | 32 => (.array .boolean)
  | 33 => (.array .int)
  | 34 => (.array .int)
  | 35 => .int
  | 36 => (.array .int)
  | 37 => (.array .int)
  | 38 => (.array .int)
  | 39 => (.array .int)
  | 40 => (.array .int)
  | 41 => (.array .boolean)
  | 42 => .int
  | 43 => (.array .int)
  | 44 => (.array .int)
  | 45 => (.array .int)
  | 46 => .int
  | 47 => (.array .int)
  | 48 => .int
  | 49 => (.array .int)
  | 50 => (.array .int)
  | _ => (.array .int)
theorem nR : ∀ a, a < 52 → ∀ b, b < 52 → a ≠ b → (FR a).2.1 ≠ (FR b).2.1 := by decide +kernel
theorem tR_ok : ∀ k, k < 52 → parseFieldDescriptor (FR k).2.2.1 = some (tR k) := by decide +kernel
def gh_cl : List vw_C := [(RG, FG, 10), (RS, FS, 6), (RB, FB, 7), (RE, FE, 9), (RT, FT, 4), (RK, FK, 6), (RP, FP, 3), (RR, FR, 52)]
def gh_ty : List FieldType := [.int, .byte, .boolean, .long, (.object "RatchetGroup$Member"), (.object "RatchetGroup$Epoch"), (.object "RatchetGroup$KeyPackage"), (.object "RatchetGroup$Proposal")]
def gh_nw : List Cond := [
  (.arrayOver (.object "RatchetGroup$Member")),
  (.arrayOver (.object "RatchetGroup$Epoch")),
  (.arrayOver (.object "RatchetGroup$KeyPackage")),
  (.arrayOver (.object "RatchetGroup$Proposal")),
  (.castable "[B" "java/lang/Cloneable"),
  (.methodLinkNest "RatchetGroup$Member" 50 ⟨"RatchetGroup", "leafNode", "(I)I"⟩ "RatchetGroup"),
  (.methodLinkNest "RatchetGroup$Tree" 55 ⟨"RatchetGroup", "bit", "(I)I"⟩ "RatchetGroup"),
  (.methodLinkNest "RatchetGroup$Tree" 64 ⟨"RatchetGroup", "leafNodes", "(I)I"⟩ "RatchetGroup"),
  (.castable "java/lang/IndexOutOfBoundsException" "java/lang/IndexOutOfBoundsException"),
  (.castable "java/lang/IllegalStateException" "java/lang/IllegalStateException"),
  (.castable "[I" "java/lang/Cloneable"),
  (.methodLinkNest "RatchetGroup$Tree" 43 ⟨"RatchetGroup", "pathNode", "(II)I"⟩ "RatchetGroup"),
  (.methodLinkNest "RatchetGroup$Tree" 61 ⟨"RatchetGroup", "leafNode", "(I)I"⟩ "RatchetGroup"),
  (.methodLinkNest "RatchetGroup$Member" 86 ⟨"RatchetGroup", "pathNode", "(II)I"⟩ "RatchetGroup"),
  (.methodLinkNest "RatchetGroup$Epoch" 33 ⟨"RatchetGroup", "pathNode", "(II)I"⟩ "RatchetGroup"),
  (.methodLinkNest "RatchetGroup$Epoch" 37 ⟨"RatchetGroup", "bit", "(I)I"⟩ "RatchetGroup"),
  (.methodLinkNest "RatchetGroup$Member" 73 ⟨"RatchetGroup", "bit", "(I)I"⟩ "RatchetGroup"),
  (.methodLinkNest "RatchetGroup$Member" 96 ⟨"RatchetGroup", "leafNodes", "(I)I"⟩ "RatchetGroup")]
def gh_nest (w : Cond) : Bool := match w with
  | .fieldLinkNest _ _ _ _ _ _ => true
  | .methodLinkNest _ _ _ _ => true
  | .arrayOver (.object _) => true
  | .castable _ _ => true
  | _ => false
theorem gh_nw_ok : ∀ w ∈ gh_nw, gh_nest w = true := by decide +kernel
