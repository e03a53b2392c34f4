-- the claim's own names, cut out of the printed text of the task
def RX0 : String := "HopRules$Address"
def TX0 : u_T := fun k => match k with
  | 0 => ("HopRules$Address", "number", "I", true)
  | 1 => ("HopRules$Address", "scheme", "I", true)
  | 2 => ("HopRules$Address", "host", "LHopRules$Host;", true)
  | 3 => ("HopRules$Address", "port", "I", true)
  | 4 => ("HopRules$Address", "path", "I", true)
  | 5 => ("HopRules$Address", "whole", "Ljava/lang/String;", true)
  | 6 => ("HopRules$Address", "redirectsTo", "LHopRules$Address;", false)
  | 7 => ("HopRules$Address", "status", "I", false)
  | 8 => ("HopRules$Address", "allowedOrigins", "I", false)
  | 9 => ("HopRules$Address", "allowsCredentials", "Z", false)
  | 10 => ("HopRules$Address", "allowedOthers", "I", false)
  | 11 => ("HopRules$Address", "allowedAge", "I", false)
  | _ => ("HopRules$Address", "line", "LHopRules$CookieLine;", false)
def tyX0 : Nat → FieldType := fun k => match k with
  | 0 => .int
  | 1 => .int
  | 2 => .object "HopRules$Host"
  | 3 => .int
  | 4 => .int
  | 5 => .object "java/lang/String"
  | 6 => .object "HopRules$Address"
  | 7 => .int
  | 8 => .int
  | 9 => .boolean
  | 10 => .int
  | 11 => .int
  | _ => .object "HopRules$CookieLine"
theorem nmX0 : ∀ a, a < 13 → ∀ b, b < 13 → a ≠ b → (TX0 a).2.1 ≠ (TX0 b).2.1 := by decide +kernel
theorem tyX0_ok : ∀ k, k < 13 → parseFieldDescriptor (TX0 k).2.2.1 = some (tyX0 k) := by decide +kernel
abbrev cX0_init : ByteArray := prog_2_method_1_code
def yX0_init : MethodName := ⟨RX0, "<init>", "(IILHopRules$Host;II)V"⟩
abbrev cX0_write : ByteArray := prog_2_method_2_code
def yX0_write : MethodName := ⟨RX0, "write", "(ILHopRules$Host;II)Ljava/lang/String;"⟩
abbrev cX0_origin : ByteArray := prog_2_method_3_code
def yX0_origin : MethodName := ⟨RX0, "origin", "()I"⟩
abbrev cX0_siteCode : ByteArray := prog_2_method_4_code
def yX0_siteCode : MethodName := ⟨RX0, "siteCode", "()I"⟩
def RX1 : String := "HopRules$Connection"
def TX1 : u_T := fun k => match k with
  | 0 => ("HopRules$Connection", "origin", "I", true)
  | 1 => ("HopRules$Connection", "hasCredentials", "Z", true)
  | 2 => ("HopRules$Connection", "partition", "I", true)
  | _ => ("HopRules$Connection", "lastTick", "I", false)
def tyX1 : Nat → FieldType := fun k => match k with
  | 0 => .int
  | 1 => .boolean
  | 2 => .int
  | _ => .int
theorem nmX1 : ∀ a, a < 4 → ∀ b, b < 4 → a ≠ b → (TX1 a).2.1 ≠ (TX1 b).2.1 := by decide +kernel
theorem tyX1_ok : ∀ k, k < 4 → parseFieldDescriptor (TX1 k).2.2.1 = some (tyX1 k) := by decide +kernel
abbrev cX1_init : ByteArray := prog_3_method_1_code
def yX1_init : MethodName := ⟨RX1, "<init>", "(IZI)V"⟩
def RX2 : String := "HopRules$Cookie"
def TX2 : u_T := fun k => match k with
  | 0 => ("HopRules$Cookie", "line", "LHopRules$CookieLine;", true)
  | 1 => ("HopRules$Cookie", "host", "LHopRules$Host;", true)
  | 2 => ("HopRules$Cookie", "isForHostAlone", "Z", true)
  | 3 => ("HopRules$Cookie", "partition", "I", true)
  | 4 => ("HopRules$Cookie", "goneAt", "I", true)
  | _ => ("HopRules$Cookie", "lastUse", "I", false)
def tyX2 : Nat → FieldType := fun k => match k with
  | 0 => .object "HopRules$CookieLine"
  | 1 => .object "HopRules$Host"
  | 2 => .boolean
  | 3 => .int
  | 4 => .int
  | _ => .int
theorem nmX2 : ∀ a, a < 6 → ∀ b, b < 6 → a ≠ b → (TX2 a).2.1 ≠ (TX2 b).2.1 := by decide +kernel
theorem tyX2_ok : ∀ k, k < 6 → parseFieldDescriptor (TX2 k).2.2.1 = some (tyX2 k) := by decide +kernel
abbrev cX2_init : ByteArray := prog_4_method_1_code
def yX2_init : MethodName := ⟨RX2, "<init>", "(LHopRules$CookieLine;LHopRules$Hop;I)V"⟩
abbrev cX2_isGone : ByteArray := prog_4_method_2_code
def yX2_isGone : MethodName := ⟨RX2, "isGone", "(I)Z"⟩
abbrev cX2_isSame : ByteArray := prog_4_method_3_code
def yX2_isSame : MethodName := ⟨RX2, "isSame", "(LHopRules$Cookie;)Z"⟩
abbrev cX2_sharesLimitWith : ByteArray := prog_4_method_4_code
def yX2_sharesLimitWith : MethodName := ⟨RX2, "sharesLimitWith", "(LHopRules$Cookie;)Z"⟩
abbrev cX2_goesBefore : ByteArray := prog_4_method_5_code
def yX2_goesBefore : MethodName := ⟨RX2, "goesBefore", "(LHopRules$Cookie;)Z"⟩
abbrev cX2_isSeenAt : ByteArray := prog_4_method_6_code
def yX2_isSeenAt : MethodName := ⟨RX2, "isSeenAt", "(LHopRules$Hop;)Z"⟩
def RX3 : String := "HopRules$CookieLine"
def TX3 : u_T := fun k => match k with
  | 0 => ("HopRules$CookieLine", "name", "I", true)
  | 1 => ("HopRules$CookieLine", "value", "I", true)
  | 2 => ("HopRules$CookieLine", "domain", "LHopRules$Host;", true)
  | 3 => ("HopRules$CookieLine", "path", "I", true)
  | 4 => ("HopRules$CookieLine", "flags", "I", true)
  | _ => ("HopRules$CookieLine", "age", "I", true)
def tyX3 : Nat → FieldType := fun k => match k with
  | 0 => .int
  | 1 => .int
  | 2 => .object "HopRules$Host"
  | 3 => .int
  | 4 => .int
  | _ => .int
theorem nmX3 : ∀ a, a < 6 → ∀ b, b < 6 → a ≠ b → (TX3 a).2.1 ≠ (TX3 b).2.1 := by decide +kernel
theorem tyX3_ok : ∀ k, k < 6 → parseFieldDescriptor (TX3 k).2.2.1 = some (tyX3 k) := by decide +kernel
abbrev cX3_init : ByteArray := prog_5_method_1_code
def yX3_init : MethodName := ⟨RX3, "<init>", "(IILHopRules$Host;III)V"⟩
abbrev cX3_has : ByteArray := prog_5_method_2_code
def yX3_has : MethodName := ⟨RX3, "has", "(I)Z"⟩
abbrev cX3_isLaxOrStrict : ByteArray := prog_5_method_3_code
def yX3_isLaxOrStrict : MethodName := ⟨RX3, "isLaxOrStrict", "()Z"⟩
abbrev cX3_nameAndValue : ByteArray := prog_5_method_4_code
def yX3_nameAndValue : MethodName := ⟨RX3, "nameAndValue", "()I"⟩
def RX4 : String := "HopRules$Hop"
def TX4 : u_T := fun k => match k with
  | 0 => ("HopRules$Hop", "address", "LHopRules$Address;", true)
  | 1 => ("HopRules$Hop", "method", "I", true)
  | 2 => ("HopRules$Hop", "isTainted", "Z", true)
  | 3 => ("HopRules$Hop", "isFromAfar", "Z", true)
  | 4 => ("HopRules$Hop", "navigates", "Z", true)
  | 5 => ("HopRules$Hop", "partition", "I", true)
  | 6 => ("HopRules$Hop", "referrer", "I", true)
  | 7 => ("HopRules$Hop", "sentCookies", "[I", true)
  | 8 => ("HopRules$Hop", "sentCount", "I", false)
  | 9 => ("HopRules$Hop", "isRefusedByPreflight", "Z", false)
  | 10 => ("HopRules$Hop", "isLet", "Z", false)
  | _ => ("HopRules$Hop", "isRedirected", "Z", false)
def tyX4 : Nat → FieldType := fun k => match k with
  | 0 => .object "HopRules$Address"
  | 1 => .int
  | 2 => .boolean
  | 3 => .boolean
  | 4 => .boolean
  | 5 => .int
  | 6 => .int
  | 7 => .array .int
  | 8 => .int
  | 9 => .boolean
  | 10 => .boolean
  | _ => .boolean
theorem nmX4 : ∀ a, a < 12 → ∀ b, b < 12 → a ≠ b → (TX4 a).2.1 ≠ (TX4 b).2.1 := by decide +kernel
theorem tyX4_ok : ∀ k, k < 12 → parseFieldDescriptor (TX4 k).2.2.1 = some (tyX4 k) := by decide +kernel
abbrev cX4_init : ByteArray := prog_6_method_1_code
def yX4_init : MethodName := ⟨RX4, "<init>", "(LHopRules$Request;LHopRules$Address;)V"⟩
abbrev cX4_noteSent : ByteArray := prog_6_method_2_code
def yX4_noteSent : MethodName := ⟨RX4, "noteSent", "(LHopRules$Cookie;)V"⟩
def RX5 : String := "HopRules$Host"
def TX5 : u_T := fun k => match k with
  | 0 => ("HopRules$Host", "number", "I", true)
  | 1 => ("HopRules$Host", "parent", "LHopRules$Host;", true)
  | 2 => ("HopRules$Host", "label", "I", true)
  | 3 => ("HopRules$Host", "above", "I", true)
  | _ => ("HopRules$Host", "isSuffix", "Z", false)
def tyX5 : Nat → FieldType := fun k => match k with
  | 0 => .int
  | 1 => .object "HopRules$Host"
  | 2 => .int
  | 3 => .int
  | _ => .boolean
theorem nmX5 : ∀ a, a < 5 → ∀ b, b < 5 → a ≠ b → (TX5 a).2.1 ≠ (TX5 b).2.1 := by decide +kernel
theorem tyX5_ok : ∀ k, k < 5 → parseFieldDescriptor (TX5 k).2.2.1 = some (tyX5 k) := by decide +kernel
abbrev cX5_init : ByteArray := prog_7_method_1_code
def yX5_init : MethodName := ⟨RX5, "<init>", "(ILHopRules$Host;II)V"⟩
abbrev cX5_siteHost : ByteArray := prog_7_method_2_code
def yX5_siteHost : MethodName := ⟨RX5, "siteHost", "()LHopRules$Host;"⟩
abbrev cX5_isIn : ByteArray := prog_7_method_3_code
def yX5_isIn : MethodName := ⟨RX5, "isIn", "(LHopRules$Host;)Z"⟩
abbrev cX5_appendTo : ByteArray := prog_7_method_4_code
def yX5_appendTo : MethodName := ⟨RX5, "appendTo", "(Ljava/lang/StringBuilder;)V"⟩
def RX6 : String := "HopRules$Jar"
def TX6 : u_T := fun k => match k with
  | 0 => ("HopRules$Jar", "kept", "Ljava/util/ArrayList;", true)
  | _ => ("HopRules$Jar", "lastUse", "I", false)
def tyX6 : Nat → FieldType := fun k => match k with
  | 0 => .object "java/util/ArrayList"
  | _ => .int
theorem nmX6 : ∀ a, a < 2 → ∀ b, b < 2 → a ≠ b → (TX6 a).2.1 ≠ (TX6 b).2.1 := by decide +kernel
theorem tyX6_ok : ∀ k, k < 2 → parseFieldDescriptor (TX6 k).2.2.1 = some (tyX6 k) := by decide +kernel
abbrev cX6_init : ByteArray := prog_8_method_1_code
def yX6_init : MethodName := ⟨RX6, "<init>", "()V"⟩
abbrev cX6_dropGone : ByteArray := prog_8_method_2_code
def yX6_dropGone : MethodName := ⟨RX6, "dropGone", "(I)V"⟩
abbrev cX6_noteUse : ByteArray := prog_8_method_3_code
def yX6_noteUse : MethodName := ⟨RX6, "noteUse", "(LHopRules$Cookie;)V"⟩
abbrev cX6_send : ByteArray := prog_8_method_4_code
def yX6_send : MethodName := ⟨RX6, "send", "(LHopRules$Hop;Z)V"⟩
abbrev cX6_isSent : ByteArray := prog_8_method_5_code
def yX6_isSent : MethodName := ⟨RX6, "isSent", "(LHopRules$Cookie;LHopRules$Hop;Z)Z"⟩
abbrev cX6_isSentFromAfar : ByteArray := prog_8_method_6_code
def yX6_isSentFromAfar : MethodName := ⟨RX6, "isSentFromAfar", "(LHopRules$Cookie;LHopRules$Hop;Z)Z"⟩
abbrev cX6_take : ByteArray := prog_8_method_7_code
def yX6_take : MethodName := ⟨RX6, "take", "(LHopRules$Hop;ZI)V"⟩
abbrev cX6_isForOwnHost : ByteArray := prog_8_method_8_code
def yX6_isForOwnHost : MethodName := ⟨RX6, "isForOwnHost", "(LHopRules$Cookie;LHopRules$Hop;)Z"⟩
abbrev cX6_isUnsafe : ByteArray := prog_8_method_9_code
def yX6_isUnsafe : MethodName := ⟨RX6, "isUnsafe", "(LHopRules$CookieLine;LHopRules$Hop;)Z"⟩
abbrev cX6_isTooFar : ByteArray := prog_8_method_10_code
def yX6_isTooFar : MethodName := ⟨RX6, "isTooFar", "(LHopRules$CookieLine;LHopRules$Hop;Z)Z"⟩
abbrev cX6_isUnderSecureOne : ByteArray := prog_8_method_11_code
def yX6_isUnderSecureOne : MethodName := ⟨RX6, "isUnderSecureOne", "(LHopRules$Cookie;LHopRules$Hop;)Z"⟩
abbrev cX6_placeOfSame : ByteArray := prog_8_method_12_code
def yX6_placeOfSame : MethodName := ⟨RX6, "placeOfSame", "(LHopRules$Cookie;)I"⟩
abbrev cX6_removeAt : ByteArray := prog_8_method_13_code
def yX6_removeAt : MethodName := ⟨RX6, "removeAt", "(I)V"⟩
abbrev cX6_put : ByteArray := prog_8_method_14_code
def yX6_put : MethodName := ⟨RX6, "put", "(LHopRules$Cookie;I)V"⟩
abbrev cX6_trim : ByteArray := prog_8_method_15_code
def yX6_trim : MethodName := ⟨RX6, "trim", "(LHopRules$Cookie;I)V"⟩
abbrev cX6_placeToGo : ByteArray := prog_8_method_16_code
def yX6_placeToGo : MethodName := ⟨RX6, "placeToGo", "(LHopRules$Cookie;)I"⟩
def RX7 : String := "HopRules$Page"
def TX7 : u_T := fun k => match k with
  | 0 => ("HopRules$Page", "address", "LHopRules$Address;", true)
  | 1 => ("HopRules$Page", "parent", "LHopRules$Page;", true)
  | _ => ("HopRules$Page", "policy", "I", true)
def tyX7 : Nat → FieldType := fun k => match k with
  | 0 => .object "HopRules$Address"
  | 1 => .object "HopRules$Page"
  | _ => .int
theorem nmX7 : ∀ a, a < 3 → ∀ b, b < 3 → a ≠ b → (TX7 a).2.1 ≠ (TX7 b).2.1 := by decide +kernel
theorem tyX7_ok : ∀ k, k < 3 → parseFieldDescriptor (TX7 k).2.2.1 = some (tyX7 k) := by decide +kernel
abbrev cX7_init : ByteArray := prog_9_method_1_code
def yX7_init : MethodName := ⟨RX7, "<init>", "(LHopRules$Address;LHopRules$Page;I)V"⟩
abbrev cX7_top : ByteArray := prog_9_method_2_code
def yX7_top : MethodName := ⟨RX7, "top", "()LHopRules$Page;"⟩
abbrev cX7_isForeign : ByteArray := prog_9_method_3_code
def yX7_isForeign : MethodName := ⟨RX7, "isForeign", "()Z"⟩
abbrev cX7_referrerTo : ByteArray := prog_9_method_4_code
def yX7_referrerTo : MethodName := ⟨RX7, "referrerTo", "(LHopRules$Address;)I"⟩
def RX8 : String := "HopRules$Pool"
def TX8 : u_T := fun k => match k with
  | 0 => ("HopRules$Pool", "open", "Ljava/util/ArrayList;", true)
  | _ => ("HopRules$Pool", "openedCount", "I", false)
def tyX8 : Nat → FieldType := fun k => match k with
  | 0 => .object "java/util/ArrayList"
  | _ => .int
theorem nmX8 : ∀ a, a < 2 → ∀ b, b < 2 → a ≠ b → (TX8 a).2.1 ≠ (TX8 b).2.1 := by decide +kernel
theorem tyX8_ok : ∀ k, k < 2 → parseFieldDescriptor (TX8 k).2.2.1 = some (tyX8 k) := by decide +kernel
abbrev cX8_init : ByteArray := prog_10_method_1_code
def yX8_init : MethodName := ⟨RX8, "<init>", "()V"⟩
abbrev cX8_use : ByteArray := prog_10_method_2_code
def yX8_use : MethodName := ⟨RX8, "use", "(LHopRules$Address;ZII)V"⟩
abbrev cX8_placeOf : ByteArray := prog_10_method_3_code
def yX8_placeOf : MethodName := ⟨RX8, "placeOf", "(IZI)I"⟩
def RX9 : String := "HopRules$Preflight"
def TX9 : u_T := fun k => match k with
  | 0 => ("HopRules$Preflight", "origin", "I", true)
  | 1 => ("HopRules$Preflight", "address", "LHopRules$Address;", true)
  | 2 => ("HopRules$Preflight", "isAlways", "Z", true)
  | 3 => ("HopRules$Preflight", "partition", "I", true)
  | 4 => ("HopRules$Preflight", "others", "I", true)
  | _ => ("HopRules$Preflight", "goneAt", "I", true)
def tyX9 : Nat → FieldType := fun k => match k with
  | 0 => .int
  | 1 => .object "HopRules$Address"
  | 2 => .boolean
  | 3 => .int
  | 4 => .int
  | _ => .int
theorem nmX9 : ∀ a, a < 6 → ∀ b, b < 6 → a ≠ b → (TX9 a).2.1 ≠ (TX9 b).2.1 := by decide +kernel
theorem tyX9_ok : ∀ k, k < 6 → parseFieldDescriptor (TX9 k).2.2.1 = some (tyX9 k) := by decide +kernel
abbrev cX9_init : ByteArray := prog_11_method_1_code
def yX9_init : MethodName := ⟨RX9, "<init>", "(LHopRules$Request;LHopRules$Hop;I)V"⟩
abbrev cX9_isForSame : ByteArray := prog_11_method_2_code
def yX9_isForSame : MethodName := ⟨RX9, "isForSame", "(LHopRules$Preflight;)Z"⟩
def RX10 : String := "HopRules$Request"
def TX10 : u_T := fun k => match k with
  | 0 => ("HopRules$Request", "page", "LHopRules$Page;", true)
  | 1 => ("HopRules$Request", "mode", "I", true)
  | 2 => ("HopRules$Request", "credentials", "I", true)
  | 3 => ("HopRules$Request", "hasHeader", "Z", true)
  | 4 => ("HopRules$Request", "chain", "Ljava/util/ArrayList;", true)
  | 5 => ("HopRules$Request", "method", "I", false)
  | 6 => ("HopRules$Request", "isTainted", "Z", false)
  | _ => ("HopRules$Request", "isFromAfar", "Z", false)
def tyX10 : Nat → FieldType := fun k => match k with
  | 0 => .object "HopRules$Page"
  | 1 => .int
  | 2 => .int
  | 3 => .boolean
  | 4 => .object "java/util/ArrayList"
  | 5 => .int
  | 6 => .boolean
  | _ => .boolean
theorem nmX10 : ∀ a, a < 8 → ∀ b, b < 8 → a ≠ b → (TX10 a).2.1 ≠ (TX10 b).2.1 := by decide +kernel
theorem tyX10_ok : ∀ k, k < 8 → parseFieldDescriptor (TX10 k).2.2.1 = some (tyX10 k) := by decide +kernel
abbrev cX10_init : ByteArray := prog_12_method_1_code
def yX10_init : MethodName := ⟨RX10, "<init>", "(LHopRules$Page;IIIZ)V"⟩
def RX11 : String := "HopRules"
def TX11 : u_T := fun k => match k with
  | 0 => ("HopRules", "hostList", "Ljava/util/ArrayList;", true)
  | 1 => ("HopRules", "addressList", "Ljava/util/ArrayList;", true)
  | 2 => ("HopRules", "pageList", "Ljava/util/ArrayList;", true)
  | 3 => ("HopRules", "requestList", "Ljava/util/ArrayList;", true)
  | 4 => ("HopRules", "keptPreflights", "Ljava/util/ArrayList;", true)
  | 5 => ("HopRules", "jar", "LHopRules$Jar;", true)
  | 6 => ("HopRules", "pool", "LHopRules$Pool;", true)
  | 7 => ("HopRules", "isBlocking", "Z", false)
  | 8 => ("HopRules", "now", "I", false)
  | _ => ("HopRules", "preflightCount", "I", false)
def tyX11 : Nat → FieldType := fun k => match k with
  | 0 => .object "java/util/ArrayList"
  | 1 => .object "java/util/ArrayList"
  | 2 => .object "java/util/ArrayList"
  | 3 => .object "java/util/ArrayList"
  | 4 => .object "java/util/ArrayList"
  | 5 => .object "HopRules$Jar"
  | 6 => .object "HopRules$Pool"
  | 7 => .boolean
  | 8 => .int
  | _ => .int
theorem nmX11 : ∀ a, a < 10 → ∀ b, b < 10 → a ≠ b → (TX11 a).2.1 ≠ (TX11 b).2.1 := by decide +kernel
theorem tyX11_ok : ∀ k, k < 10 → parseFieldDescriptor (TX11 k).2.2.1 = some (tyX11 k) := by decide +kernel
abbrev cX11_init : ByteArray := prog_1_method_1_code
def yX11_init : MethodName := ⟨RX11, "<init>", "()V"⟩
abbrev cX11_host : ByteArray := prog_1_method_2_code
def yX11_host : MethodName := ⟨RX11, "host", "(IIZ)I"⟩
abbrev cX11_toggleSuffix : ByteArray := prog_1_method_3_code
def yX11_toggleSuffix : MethodName := ⟨RX11, "toggleSuffix", "(I)Z"⟩
abbrev cX11_site : ByteArray := prog_1_method_4_code
def yX11_site : MethodName := ⟨RX11, "site", "(I)I"⟩
abbrev cX11_address : ByteArray := prog_1_method_5_code
def yX11_address : MethodName := ⟨RX11, "address", "(IIII)I"⟩
abbrev cX11_resolve : ByteArray := prog_1_method_6_code
def yX11_resolve : MethodName := ⟨RX11, "resolve", "(II)I"⟩
abbrev cX11_text : ByteArray := prog_1_method_7_code
def yX11_text : MethodName := ⟨RX11, "text", "(II)C"⟩
abbrev cX11_hostAt : ByteArray := prog_1_method_8_code
def yX11_hostAt : MethodName := ⟨RX11, "hostAt", "(I)LHopRules$Host;"⟩
abbrev cX11_findHost : ByteArray := prog_1_method_9_code
def yX11_findHost : MethodName := ⟨RX11, "findHost", "(LHopRules$Host;I)LHopRules$Host;"⟩
abbrev cX11_addressAt : ByteArray := prog_1_method_10_code
def yX11_addressAt : MethodName := ⟨RX11, "addressAt", "(I)LHopRules$Address;"⟩
abbrev cX11_isAddress : ByteArray := prog_1_method_11_code
def yX11_isAddress : MethodName := ⟨RX11, "isAddress", "(I)Z"⟩
abbrev cX11_findAddress : ByteArray := prog_1_method_12_code
def yX11_findAddress : MethodName := ⟨RX11, "findAddress", "(ILHopRules$Host;II)LHopRules$Address;"⟩
abbrev cX11_tellAddress : ByteArray := prog_1_method_13_code
def yX11_tellAddress : MethodName := ⟨RX11, "tellAddress", "(ILHopRules$Host;II)I"⟩
abbrev cX11_isPath : ByteArray := prog_1_method_14_code
def yX11_isPath : MethodName := ⟨RX11, "isPath", "(I)Z"⟩
abbrev cX11_countSegments : ByteArray := prog_1_method_15_code
def yX11_countSegments : MethodName := ⟨RX11, "countSegments", "(I)I"⟩
abbrev cX11_beginsWith : ByteArray := prog_1_method_16_code
def yX11_beginsWith : MethodName := ⟨RX11, "beginsWith", "(II)Z"⟩
abbrev cX11_powerOfReference : ByteArray := prog_1_method_17_code
def yX11_powerOfReference : MethodName := ⟨RX11, "powerOfReference", "(I)I"⟩
abbrev cX11_pathBehind : ByteArray := prog_1_method_18_code
def yX11_pathBehind : MethodName := ⟨RX11, "pathBehind", "(III)I"⟩
abbrev cX11_redirect : ByteArray := prog_1_method_19_code
def yX11_redirect : MethodName := ⟨RX11, "redirect", "(III)V"⟩
abbrev cX11_allow : ByteArray := prog_1_method_20_code
def yX11_allow : MethodName := ⟨RX11, "allow", "(IIZII)V"⟩
abbrev cX11_setsCookie : ByteArray := prog_1_method_21_code
def yX11_setsCookie : MethodName := ⟨RX11, "setsCookie", "(IIIIIII)V"⟩
abbrev cX11_toggleBlocking : ByteArray := prog_1_method_22_code
def yX11_toggleBlocking : MethodName := ⟨RX11, "toggleBlocking", "()Z"⟩
abbrev cX11_page : ByteArray := prog_1_method_23_code
def yX11_page : MethodName := ⟨RX11, "page", "(III)I"⟩
abbrev cX11_request : ByteArray := prog_1_method_24_code
def yX11_request : MethodName := ⟨RX11, "request", "(IIIIIZ)I"⟩
abbrev cX11_pass : ByteArray := prog_1_method_25_code
def yX11_pass : MethodName := ⟨RX11, "pass", "(I)I"⟩
abbrev cX11_pageAt : ByteArray := prog_1_method_26_code
def yX11_pageAt : MethodName := ⟨RX11, "pageAt", "(I)LHopRules$Page;"⟩
abbrev cX11_takeHop : ByteArray := prog_1_method_27_code
def yX11_takeHop : MethodName := ⟨RX11, "takeHop", "(LHopRules$Request;LHopRules$Address;)LHopRules$Address;"⟩
abbrev cX11_isMixed : ByteArray := prog_1_method_28_code
def yX11_isMixed : MethodName := ⟨RX11, "isMixed", "(LHopRules$Request;LHopRules$Address;)Z"⟩
abbrev cX11_unmixed : ByteArray := prog_1_method_29_code
def yX11_unmixed : MethodName := ⟨RX11, "unmixed", "(LHopRules$Request;LHopRules$Address;)LHopRules$Address;"⟩
abbrev cX11_isCross : ByteArray := prog_1_method_30_code
def yX11_isCross : MethodName := ⟨RX11, "isCross", "(LHopRules$Request;LHopRules$Hop;)Z"⟩
abbrev cX11_usesCredentials : ByteArray := prog_1_method_31_code
def yX11_usesCredentials : MethodName := ⟨RX11, "usesCredentials", "(LHopRules$Request;LHopRules$Hop;)Z"⟩
abbrev cX11_isLetByAnswer : ByteArray := prog_1_method_32_code
def yX11_isLetByAnswer : MethodName := ⟨RX11, "isLetByAnswer", "(LHopRules$Request;LHopRules$Hop;)Z"⟩
abbrev cX11_follow : ByteArray := prog_1_method_33_code
def yX11_follow : MethodName := ⟨RX11, "follow", "(LHopRules$Request;LHopRules$Hop;)LHopRules$Address;"⟩
abbrev cX11_becomesGet : ByteArray := prog_1_method_34_code
def yX11_becomesGet : MethodName := ⟨RX11, "becomesGet", "(II)Z"⟩
abbrev cX11_passesPreflight : ByteArray := prog_1_method_35_code
def yX11_passesPreflight : MethodName := ⟨RX11, "passesPreflight", "(LHopRules$Request;LHopRules$Hop;)Z"⟩
abbrev cX11_findKept : ByteArray := prog_1_method_36_code
def yX11_findKept : MethodName := ⟨RX11, "findKept", "(LHopRules$Preflight;)LHopRules$Preflight;"⟩
abbrev cX11_keep : ByteArray := prog_1_method_37_code
def yX11_keep : MethodName := ⟨RX11, "keep", "(LHopRules$Preflight;)V"⟩
abbrev cX11_dropGonePreflights : ByteArray := prog_1_method_38_code
def yX11_dropGonePreflights : MethodName := ⟨RX11, "dropGonePreflights", "()V"⟩
abbrev cX11_judge : ByteArray := prog_1_method_39_code
def yX11_judge : MethodName := ⟨RX11, "judge", "(LHopRules$Request;)I"⟩
abbrev cX11_hops : ByteArray := prog_1_method_40_code
def yX11_hops : MethodName := ⟨RX11, "hops", "(I)I"⟩
abbrev cX11_hop : ByteArray := prog_1_method_41_code
def yX11_hop : MethodName := ⟨RX11, "hop", "(II)I"⟩
abbrev cX11_sent : ByteArray := prog_1_method_42_code
def yX11_sent : MethodName := ⟨RX11, "sent", "(III)I"⟩
abbrev cX11_judged : ByteArray := prog_1_method_43_code
def yX11_judged : MethodName := ⟨RX11, "judged", "(I)I"⟩
abbrev cX11_cookies : ByteArray := prog_1_method_44_code
def yX11_cookies : MethodName := ⟨RX11, "cookies", "()I"⟩
abbrev cX11_cookie : ByteArray := prog_1_method_45_code
def yX11_cookie : MethodName := ⟨RX11, "cookie", "(I)I"⟩
abbrev cX11_count : ByteArray := prog_1_method_46_code
def yX11_count : MethodName := ⟨RX11, "count", "(I)I"⟩
abbrev cX11_requestAt : ByteArray := prog_1_method_47_code
def yX11_requestAt : MethodName := ⟨RX11, "requestAt", "(I)LHopRules$Request;"⟩
abbrev cX11_hopAt : ByteArray := prog_1_method_48_code
def yX11_hopAt : MethodName := ⟨RX11, "hopAt", "(II)LHopRules$Hop;"⟩
def RX12 : String := "HopRulesModel"
def TX12 : u_T := fun k => match k with
  | 0 => ("HopRulesModel", "tick", "I", false)
  | 1 => ("HopRulesModel", "turns", "I", false)
  | 2 => ("HopRulesModel", "isBlocking", "Z", false)
  | 3 => ("HopRulesModel", "hosts", "I", false)
  | 4 => ("HopRulesModel", "under", "[I", true)
  | 5 => ("HopRulesModel", "label", "[I", true)
  | 6 => ("HopRulesModel", "isSuffix", "[Z", true)
  | 7 => ("HopRulesModel", "addresses", "I", false)
  | 8 => ("HopRulesModel", "scheme", "[I", true)
  | 9 => ("HopRulesModel", "host", "[I", true)
  | 10 => ("HopRulesModel", "port", "[I", true)
  | 11 => ("HopRulesModel", "path", "[I", true)
  | 12 => ("HopRulesModel", "redirect", "[I", true)
  | 13 => ("HopRulesModel", "status", "[I", true)
  | 14 => ("HopRulesModel", "origins", "[I", true)
  | 15 => ("HopRulesModel", "lets", "[Z", true)
  | 16 => ("HopRulesModel", "others", "[I", true)
  | 17 => ("HopRulesModel", "age", "[I", true)
  | 18 => ("HopRulesModel", "setName", "[I", true)
  | 19 => ("HopRulesModel", "setValue", "[I", true)
  | 20 => ("HopRulesModel", "setDomain", "[I", true)
  | 21 => ("HopRulesModel", "setPath", "[I", true)
  | 22 => ("HopRulesModel", "setFlags", "[I", true)
  | 23 => ("HopRulesModel", "setAge", "[I", true)
  | 24 => ("HopRulesModel", "pages", "I", false)
  | 25 => ("HopRulesModel", "pageAt", "[I", true)
  | 26 => ("HopRulesModel", "parent", "[I", true)
  | 27 => ("HopRulesModel", "policy", "[I", true)
  | 28 => ("HopRulesModel", "requests", "I", false)
  | 29 => ("HopRulesModel", "ended", "[I", true)
  | 30 => ("HopRulesModel", "hops", "[I", true)
  | 31 => ("HopRulesModel", "hop", "[I", true)
  | 32 => ("HopRulesModel", "sentMany", "[I", true)
  | 33 => ("HopRulesModel", "sent", "[I", true)
  | 34 => ("HopRulesModel", "cookies", "I", false)
  | 35 => ("HopRulesModel", "name", "[I", true)
  | 36 => ("HopRulesModel", "value", "[I", true)
  | 37 => ("HopRulesModel", "owner", "[I", true)
  | 38 => ("HopRulesModel", "isAlone", "[Z", true)
  | 39 => ("HopRulesModel", "cookiePath", "[I", true)
  | 40 => ("HopRulesModel", "flags", "[I", true)
  | 41 => ("HopRulesModel", "part", "[I", true)
  | 42 => ("HopRulesModel", "end", "[I", true)
  | 43 => ("HopRulesModel", "used", "[I", true)
  | 44 => ("HopRulesModel", "connections", "I", false)
  | 45 => ("HopRulesModel", "opened", "I", false)
  | 46 => ("HopRulesModel", "lineScheme", "[I", true)
  | 47 => ("HopRulesModel", "lineHost", "[I", true)
  | 48 => ("HopRulesModel", "linePort", "[I", true)
  | 49 => ("HopRulesModel", "isCredited", "[Z", true)
  | 50 => ("HopRulesModel", "linePart", "[I", true)
  | 51 => ("HopRulesModel", "lineTick", "[I", true)
  | 52 => ("HopRulesModel", "lineTurn", "[I", true)
  | 53 => ("HopRulesModel", "preflights", "I", false)
  | 54 => ("HopRulesModel", "kept", "I", false)
  | 55 => ("HopRulesModel", "keptOrigin", "[I", true)
  | 56 => ("HopRulesModel", "keptAddress", "[I", true)
  | 57 => ("HopRulesModel", "isAlways", "[Z", true)
  | 58 => ("HopRulesModel", "keptPart", "[I", true)
  | 59 => ("HopRulesModel", "keptOthers", "[I", true)
  | 60 => ("HopRulesModel", "keptUntil", "[I", true)
  | 61 => ("HopRulesModel", "page", "I", false)
  | 62 => ("HopRulesModel", "mode", "I", false)
  | 63 => ("HopRulesModel", "always", "Z", false)
  | 64 => ("HopRulesModel", "sameToo", "Z", false)
  | 65 => ("HopRulesModel", "hasHeader", "Z", false)
  | 66 => ("HopRulesModel", "method", "I", false)
  | 67 => ("HopRulesModel", "isTainted", "Z", false)
  | 68 => ("HopRulesModel", "isAfar", "Z", false)
  | 69 => ("HopRulesModel", "wasCross", "Z", false)
  | 70 => ("HopRulesModel", "segments", "[I", true)
  | _ => ("HopRulesModel", "thrown", "I", false)
def tyX12 : Nat → FieldType := fun k => match k with
  | 0 => .int
  | 1 => .int
  | 2 => .boolean
  | 3 => .int
  | 4 => .array .int
  | 5 => .array .int
  | 6 => .array .boolean
  | 7 => .int
  | 8 => .array .int
  | 9 => .array .int
  | 10 => .array .int
  | 11 => .array .int
  | 12 => .array .int
  | 13 => .array .int
  | 14 => .array .int
  | 15 => .array .boolean
  | 16 => .array .int
  | 17 => .array .int
  | 18 => .array .int
  | 19 => .array .int
  | 20 => .array .int
  | 21 => .array .int
  | 22 => .array .int
  | 23 => .array .int
  | 24 => .int
  | 25 => .array .int
  | 26 => .array .int
  | 27 => .array .int
  | 28 => .int
  | 29 => .array .int
  | 30 => .array .int
  | 31 => .array .int
  | 32 => .array .int
  | 33 => .array .int
  | 34 => .int
  | 35 => .array .int
  | 36 => .array .int
  | 37 => .array .int
  | 38 => .array .boolean
  | 39 => .array .int
  | 40 => .array .int
  | 41 => .array .int
  | 42 => .array .int
  | 43 => .array .int
  | 44 => .int
  | 45 => .int
  | 46 => .array .int
  | 47 => .array .int
  | 48 => .array .int
  | 49 => .array .boolean
  | 50 => .array .int
  | 51 => .array .int
  | 52 => .array .int
  | 53 => .int
  | 54 => .int
  | 55 => .array .int
  | 56 => .array .int
  | 57 => .array .boolean
  | 58 => .array .int
  | 59 => .array .int
  | 60 => .array .int
  | 61 => .int
  | 62 => .int
  | 63 => .boolean
  | 64 => .boolean
  | 65 => .boolean
  | 66 => .int
  | 67 => .boolean
  | 68 => .boolean
  | 69 => .boolean
  | 70 => .array .int
  | _ => .int
theorem nmX12 : ∀ a, a < 72 → ∀ b, b < 72 → a ≠ b → (TX12 a).2.1 ≠ (TX12 b).2.1 := by decide +kernel
theorem tyX12_ok : ∀ k, k < 72 → parseFieldDescriptor (TX12 k).2.2.1 = some (tyX12 k) := by decide +kernel
abbrev cX12_init : ByteArray := prog_14_method_1_code
def yX12_init : MethodName := ⟨RX12, "<init>", "()V"⟩
abbrev cX12_thrown : ByteArray := prog_14_method_2_code
def yX12_thrown : MethodName := ⟨RX12, "thrown", "()I"⟩
abbrev cX12_fails : ByteArray := prog_14_method_3_code
def yX12_fails : MethodName := ⟨RX12, "fails", "(I)Z"⟩
abbrev cX12_lies : ByteArray := prog_14_method_4_code
def yX12_lies : MethodName := ⟨RX12, "lies", "(III)Z"⟩
abbrev cX12_isHost : ByteArray := prog_14_method_5_code
def yX12_isHost : MethodName := ⟨RX12, "isHost", "(I)Z"⟩
abbrev cX12_isAddress : ByteArray := prog_14_method_6_code
def yX12_isAddress : MethodName := ⟨RX12, "isAddress", "(I)Z"⟩
abbrev cX12_depth : ByteArray := prog_14_method_7_code
def yX12_depth : MethodName := ⟨RX12, "depth", "(I)I"⟩
abbrev cX12_hostOf : ByteArray := prog_14_method_8_code
def yX12_hostOf : MethodName := ⟨RX12, "hostOf", "(II)I"⟩
abbrev cX12_host : ByteArray := prog_14_method_9_code
def yX12_host : MethodName := ⟨RX12, "host", "(IIZ)I"⟩
abbrev cX12_toggleSuffix : ByteArray := prog_14_method_10_code
def yX12_toggleSuffix : MethodName := ⟨RX12, "toggleSuffix", "(I)Z"⟩
abbrev cX12_siteOf : ByteArray := prog_14_method_11_code
def yX12_siteOf : MethodName := ⟨RX12, "siteOf", "(I)I"⟩
abbrev cX12_site : ByteArray := prog_14_method_12_code
def yX12_site : MethodName := ⟨RX12, "site", "(I)I"⟩
abbrev cX12_isIn : ByteArray := prog_14_method_13_code
def yX12_isIn : MethodName := ⟨RX12, "isIn", "(II)Z"⟩
abbrev cX12_isPath : ByteArray := prog_14_method_14_code
def yX12_isPath : MethodName := ⟨RX12, "isPath", "(I)Z"⟩
abbrev cX12_find : ByteArray := prog_14_method_15_code
def yX12_find : MethodName := ⟨RX12, "find", "(IIII)I"⟩
abbrev cX12_tells : ByteArray := prog_14_method_16_code
def yX12_tells : MethodName := ⟨RX12, "tells", "(IIII)I"⟩
abbrev cX12_address : ByteArray := prog_14_method_17_code
def yX12_address : MethodName := ⟨RX12, "address", "(IIII)I"⟩
abbrev cX12_isReference : ByteArray := prog_14_method_18_code
def yX12_isReference : MethodName := ⟨RX12, "isReference", "(I)Z"⟩
abbrev cX12_resolved : ByteArray := prog_14_method_19_code
def yX12_resolved : MethodName := ⟨RX12, "resolved", "(II)I"⟩
abbrev cX12_resolve : ByteArray := prog_14_method_20_code
def yX12_resolve : MethodName := ⟨RX12, "resolve", "(II)I"⟩
abbrev cX12_letter : ByteArray := prog_14_method_21_code
def yX12_letter : MethodName := ⟨RX12, "letter", "(II)C"⟩
abbrev cX12_letters : ByteArray := prog_14_method_22_code
def yX12_letters : MethodName := ⟨RX12, "letters", "(I)I"⟩
abbrev cX12_behind : ByteArray := prog_14_method_23_code
def yX12_behind : MethodName := ⟨RX12, "behind", "(II)C"⟩
abbrev cX12_sign : ByteArray := prog_14_method_24_code
def yX12_sign : MethodName := ⟨RX12, "sign", "(II)C"⟩
abbrev cX12_text : ByteArray := prog_14_method_25_code
def yX12_text : MethodName := ⟨RX12, "text", "(II)C"⟩
abbrev cX12_redirect : ByteArray := prog_14_method_26_code
def yX12_redirect : MethodName := ⟨RX12, "redirect", "(III)V"⟩
abbrev cX12_allow : ByteArray := prog_14_method_27_code
def yX12_allow : MethodName := ⟨RX12, "allow", "(IIZII)V"⟩
abbrev cX12_setsCookie : ByteArray := prog_14_method_28_code
def yX12_setsCookie : MethodName := ⟨RX12, "setsCookie", "(IIIIIII)V"⟩
abbrev cX12_toggleBlocking : ByteArray := prog_14_method_29_code
def yX12_toggleBlocking : MethodName := ⟨RX12, "toggleBlocking", "()Z"⟩
abbrev cX12_isPage : ByteArray := prog_14_method_30_code
def yX12_isPage : MethodName := ⟨RX12, "isPage", "(I)Z"⟩
abbrev cX12_page : ByteArray := prog_14_method_31_code
def yX12_page : MethodName := ⟨RX12, "page", "(III)I"⟩
abbrev cX12_place : ByteArray := prog_14_method_32_code
def yX12_place : MethodName := ⟨RX12, "place", "(I)I"⟩
abbrev cX12_gate : ByteArray := prog_14_method_33_code
def yX12_gate : MethodName := ⟨RX12, "gate", "(I)I"⟩
abbrev cX12_isSame : ByteArray := prog_14_method_34_code
def yX12_isSame : MethodName := ⟨RX12, "isSame", "(II)Z"⟩
abbrev cX12_top : ByteArray := prog_14_method_35_code
def yX12_top : MethodName := ⟨RX12, "top", "(I)I"⟩
abbrev cX12_isForeign : ByteArray := prog_14_method_36_code
def yX12_isForeign : MethodName := ⟨RX12, "isForeign", "(I)Z"⟩
abbrev cX12_closes : ByteArray := prog_14_method_37_code
def yX12_closes : MethodName := ⟨RX12, "closes", "(I)V"⟩
abbrev cX12_connects : ByteArray := prog_14_method_38_code
def yX12_connects : MethodName := ⟨RX12, "connects", "(IZI)V"⟩
abbrev cX12_many : ByteArray := prog_14_method_39_code
def yX12_many : MethodName := ⟨RX12, "many", "(I)I"⟩
abbrev cX12_begins : ByteArray := prog_14_method_40_code
def yX12_begins : MethodName := ⟨RX12, "begins", "(II)Z"⟩
abbrev cX12_drops : ByteArray := prog_14_method_41_code
def yX12_drops : MethodName := ⟨RX12, "drops", "(I)V"⟩
abbrev cX12_has : ByteArray := prog_14_method_42_code
def yX12_has : MethodName := ⟨RX12, "has", "(II)Z"⟩
abbrev cX12_isStrict : ByteArray := prog_14_method_43_code
def yX12_isStrict : MethodName := ⟨RX12, "isStrict", "(I)Z"⟩
abbrev cX12_isLax : ByteArray := prog_14_method_44_code
def yX12_isLax : MethodName := ⟨RX12, "isLax", "(I)Z"⟩
abbrev cX12_refuses : ByteArray := prog_14_method_45_code
def yX12_refuses : MethodName := ⟨RX12, "refuses", "(II)Z"⟩
abbrev cX12_isBarred : ByteArray := prog_14_method_46_code
def yX12_isBarred : MethodName := ⟨RX12, "isBarred", "(III)Z"⟩
abbrev cX12_isAmong : ByteArray := prog_14_method_47_code
def yX12_isAmong : MethodName := ⟨RX12, "isAmong", "(IZII)Z"⟩
abbrev cX12_among : ByteArray := prog_14_method_48_code
def yX12_among : MethodName := ⟨RX12, "among", "(ZII)I"⟩
abbrev cX12_evicts : ByteArray := prog_14_method_49_code
def yX12_evicts : MethodName := ⟨RX12, "evicts", "(ZII)V"⟩
abbrev cX12_sets : ByteArray := prog_14_method_50_code
def yX12_sets : MethodName := ⟨RX12, "sets", "(II)V"⟩
abbrev cX12_goes : ByteArray := prog_14_method_51_code
def yX12_goes : MethodName := ⟨RX12, "goes", "(III)Z"⟩
abbrev cX12_sends : ByteArray := prog_14_method_52_code
def yX12_sends : MethodName := ⟨RX12, "sends", "(III)V"⟩
abbrev cX12_referrer : ByteArray := prog_14_method_53_code
def yX12_referrer : MethodName := ⟨RX12, "referrer", "(I)I"⟩
abbrev cX12_letsIt : ByteArray := prog_14_method_54_code
def yX12_letsIt : MethodName := ⟨RX12, "letsIt", "(I)Z"⟩
abbrev cX12_originOf : ByteArray := prog_14_method_55_code
def yX12_originOf : MethodName := ⟨RX12, "originOf", "(I)I"⟩
abbrev cX12_preflight : ByteArray := prog_14_method_56_code
def yX12_preflight : MethodName := ⟨RX12, "preflight", "(II)Z"⟩
abbrev cX12_records : ByteArray := prog_14_method_57_code
def yX12_records : MethodName := ⟨RX12, "records", "(II)V"⟩
abbrev cX12_does : ByteArray := prog_14_method_58_code
def yX12_does : MethodName := ⟨RX12, "does", "(II)I"⟩
abbrev cX12_mixes : ByteArray := prog_14_method_59_code
def yX12_mixes : MethodName := ⟨RX12, "mixes", "(I)I"⟩
abbrev cX12_goesOn : ByteArray := prog_14_method_60_code
def yX12_goesOn : MethodName := ⟨RX12, "goesOn", "(I)I"⟩
abbrev cX12_request : ByteArray := prog_14_method_61_code
def yX12_request : MethodName := ⟨RX12, "request", "(IIIIIZ)I"⟩
abbrev cX12_pass : ByteArray := prog_14_method_62_code
def yX12_pass : MethodName := ⟨RX12, "pass", "(I)I"⟩
abbrev cX12_isRequest : ByteArray := prog_14_method_63_code
def yX12_isRequest : MethodName := ⟨RX12, "isRequest", "(I)Z"⟩
abbrev cX12_hops : ByteArray := prog_14_method_64_code
def yX12_hops : MethodName := ⟨RX12, "hops", "(I)I"⟩
abbrev cX12_isHop : ByteArray := prog_14_method_65_code
def yX12_isHop : MethodName := ⟨RX12, "isHop", "(II)Z"⟩
abbrev cX12_hop : ByteArray := prog_14_method_66_code
def yX12_hop : MethodName := ⟨RX12, "hop", "(II)I"⟩
abbrev cX12_sent : ByteArray := prog_14_method_67_code
def yX12_sent : MethodName := ⟨RX12, "sent", "(III)I"⟩
abbrev cX12_judged : ByteArray := prog_14_method_68_code
def yX12_judged : MethodName := ⟨RX12, "judged", "(I)I"⟩
abbrev cX12_cookies : ByteArray := prog_14_method_69_code
def yX12_cookies : MethodName := ⟨RX12, "cookies", "()I"⟩
abbrev cX12_cookie : ByteArray := prog_14_method_70_code
def yX12_cookie : MethodName := ⟨RX12, "cookie", "(I)I"⟩
abbrev cX12_count : ByteArray := prog_14_method_71_code
def yX12_count : MethodName := ⟨RX12, "count", "(I)I"⟩
def RJx145de : String := "java/io/Serializable"
def TJx145de : u_T := fun k => match k with
  | _ => ("", "", "", false)
def tyJx145de : Nat → FieldType := fun k => match k with
  | _ => .int
theorem nmJx145de : ∀ a, a < 0 → ∀ b, b < 0 → a ≠ b → (TJx145de a).2.1 ≠ (TJx145de b).2.1 := by decide +kernel
theorem tyJx145de_ok : ∀ k, k < 0 → parseFieldDescriptor (TJx145de k).2.2.1 = some (tyJx145de k) := by decide +kernel
def RJ5 : String := "java/lang/AbstractStringBuilder"
def TJ5 : u_T := fun k => match k with
  | _ => ("", "", "", false)
def tyJ5 : Nat → FieldType := fun k => match k with
  | _ => .int
theorem nmJ5 : ∀ a, a < 0 → ∀ b, b < 0 → a ≠ b → (TJ5 a).2.1 ≠ (TJ5 b).2.1 := by decide +kernel
theorem tyJ5_ok : ∀ k, k < 0 → parseFieldDescriptor (TJ5 k).2.2.1 = some (tyJ5 k) := by decide +kernel
abbrev cJ5_init_d00df : ByteArray := prog_16_method_2_code
def yJ5_init_d00df : MethodName := ⟨RJ5, "<init>", "(I)V"⟩
abbrev cJ5_length_8abf5 : ByteArray := prog_16_method_6_code
def yJ5_length_8abf5 : MethodName := ⟨RJ5, "length", "()I"⟩
abbrev cJ5_ensureCapacityInternal_d00df : ByteArray := prog_16_method_9_code
def yJ5_ensureCapacityInternal_d00df : MethodName := ⟨RJ5, "ensureCapacityInternal", "(I)V"⟩
abbrev cJ5_newCapacity_0f7a4 : ByteArray := prog_16_method_10_code
def yJ5_newCapacity_0f7a4 : MethodName := ⟨RJ5, "newCapacity", "(I)I"⟩
abbrev cJ5_inflate_da8c8 : ByteArray := prog_16_method_11_code
def yJ5_inflate_da8c8 : MethodName := ⟨RJ5, "inflate", "()V"⟩
abbrev cJ5_append_cf1ce : ByteArray := prog_16_method_22_code
def yJ5_append_cf1ce : MethodName := ⟨RJ5, "append", "(Ljava/lang/String;)Ljava/lang/AbstractStringBuilder;"⟩
abbrev cJ5_appendNull_278bc : ByteArray := prog_16_method_26_code
def yJ5_appendNull_278bc : MethodName := ⟨RJ5, "appendNull", "()Ljava/lang/AbstractStringBuilder;"⟩
abbrev cJ5_append_3fe6f : ByteArray := prog_16_method_31_code
def yJ5_append_3fe6f : MethodName := ⟨RJ5, "append", "(C)Ljava/lang/AbstractStringBuilder;"⟩
abbrev cJ5_append_c97b9 : ByteArray := prog_16_method_32_code
def yJ5_append_c97b9 : MethodName := ⟨RJ5, "append", "(I)Ljava/lang/AbstractStringBuilder;"⟩
abbrev cJ5_getValue_6d5f1 : ByteArray := prog_16_method_64_code
def yJ5_getValue_6d5f1 : MethodName := ⟨RJ5, "getValue", "()[B"⟩
abbrev cJ5_isLatin1_aae02 : ByteArray := prog_16_method_68_code
def yJ5_isLatin1_aae02 : MethodName := ⟨RJ5, "isLatin1", "()Z"⟩
abbrev cJ5_inflateIfNeededFor_a7421 : ByteArray := prog_16_method_71_code
def yJ5_inflateIfNeededFor_a7421 : MethodName := ⟨RJ5, "inflateIfNeededFor", "(Ljava/lang/String;)V"⟩
abbrev cJ5_putStringAt_47b60 : ByteArray := prog_16_method_73_code
def yJ5_putStringAt_47b60 : MethodName := ⟨RJ5, "putStringAt", "(ILjava/lang/String;)V"⟩
def RJx2cfe8 : String := "java/lang/Appendable"
def TJx2cfe8 : u_T := fun k => match k with
  | _ => ("", "", "", false)
def tyJx2cfe8 : Nat → FieldType := fun k => match k with
  | _ => .int
theorem nmJx2cfe8 : ∀ a, a < 0 → ∀ b, b < 0 → a ≠ b → (TJx2cfe8 a).2.1 ≠ (TJx2cfe8 b).2.1 := by decide +kernel
theorem tyJx2cfe8_ok : ∀ k, k < 0 → parseFieldDescriptor (TJx2cfe8 k).2.2.1 = some (tyJx2cfe8 k) := by decide +kernel
def RJx9f9b0 : String := "java/lang/CharSequence"
def TJx9f9b0 : u_T := fun k => match k with
  | _ => ("", "", "", false)
def tyJx9f9b0 : Nat → FieldType := fun k => match k with
  | _ => .int
theorem nmJx9f9b0 : ∀ a, a < 0 → ∀ b, b < 0 → a ≠ b → (TJx9f9b0 a).2.1 ≠ (TJx9f9b0 b).2.1 := by decide +kernel
theorem tyJx9f9b0_ok : ∀ k, k < 0 → parseFieldDescriptor (TJx9f9b0 k).2.2.1 = some (tyJx9f9b0 k) := by decide +kernel
def RJx8e188 : String := "java/lang/Cloneable"
def TJx8e188 : u_T := fun k => match k with
  | _ => ("", "", "", false)
def tyJx8e188 : Nat → FieldType := fun k => match k with
  | _ => .int
theorem nmJx8e188 : ∀ a, a < 0 → ∀ b, b < 0 → a ≠ b → (TJx8e188 a).2.1 ≠ (TJx8e188 b).2.1 := by decide +kernel
theorem tyJx8e188_ok : ∀ k, k < 0 → parseFieldDescriptor (TJx8e188 k).2.2.1 = some (tyJx8e188 k) := by decide +kernel
def RJxb160c : String := "java/lang/Comparable"
def TJxb160c : u_T := fun k => match k with
  | _ => ("", "", "", false)
def tyJxb160c : Nat → FieldType := fun k => match k with
  | _ => .int
theorem nmJxb160c : ∀ a, a < 0 → ∀ b, b < 0 → a ≠ b → (TJxb160c a).2.1 ≠ (TJxb160c b).2.1 := by decide +kernel
theorem tyJxb160c_ok : ∀ k, k < 0 → parseFieldDescriptor (TJxb160c k).2.2.1 = some (tyJxb160c k) := by decide +kernel
def RJ6 : String := "java/lang/Integer"
def TJ6 : u_T := fun k => match k with
  | _ => ("", "", "", false)
def tyJ6 : Nat → FieldType := fun k => match k with
  | _ => .int
theorem nmJ6 : ∀ a, a < 0 → ∀ b, b < 0 → a ≠ b → (TJ6 a).2.1 ≠ (TJ6 b).2.1 := by decide +kernel
theorem tyJ6_ok : ∀ k, k < 0 → parseFieldDescriptor (TJ6 k).2.2.1 = some (tyJ6 k) := by decide +kernel
abbrev cJ6_getChars_ba4f3 : ByteArray := prog_25_method_12_code
def yJ6_getChars_ba4f3 : MethodName := ⟨RJ6, "getChars", "(II[B)I"⟩
abbrev cJ6_stringSize_0f7a4 : ByteArray := prog_25_method_13_code
def yJ6_stringSize_0f7a4 : MethodName := ⟨RJ6, "stringSize", "(I)I"⟩
def RJxab1ab : String := "java/lang/Iterable"
def TJxab1ab : u_T := fun k => match k with
  | _ => ("", "", "", false)
def tyJxab1ab : Nat → FieldType := fun k => match k with
  | _ => .int
theorem nmJxab1ab : ∀ a, a < 0 → ∀ b, b < 0 → a ≠ b → (TJxab1ab a).2.1 ≠ (TJxab1ab b).2.1 := by decide +kernel
theorem tyJxab1ab_ok : ∀ k, k < 0 → parseFieldDescriptor (TJxab1ab k).2.2.1 = some (tyJxab1ab k) := by decide +kernel
def RJ9 : String := "java/lang/Math"
def TJ9 : u_T := fun k => match k with
  | _ => ("", "", "", false)
def tyJ9 : Nat → FieldType := fun k => match k with
  | _ => .int
theorem nmJ9 : ∀ a, a < 0 → ∀ b, b < 0 → a ≠ b → (TJ9 a).2.1 ≠ (TJ9 b).2.1 := by decide +kernel
theorem tyJ9_ok : ∀ k, k < 0 → parseFieldDescriptor (TJ9 k).2.2.1 = some (tyJ9 k) := by decide +kernel
abbrev cJ9_max_7cf53 : ByteArray := prog_27_method_65_code
def yJ9_max_7cf53 : MethodName := ⟨RJ9, "max", "(II)I"⟩
abbrev cJ9_min_7cf53 : ByteArray := prog_27_method_69_code
def yJ9_min_7cf53 : MethodName := ⟨RJ9, "min", "(II)I"⟩
def RJxd2413 : String := "java/lang/Number"
def TJxd2413 : u_T := fun k => match k with
  | _ => ("", "", "", false)
def tyJxd2413 : Nat → FieldType := fun k => match k with
  | _ => .int
theorem nmJxd2413 : ∀ a, a < 0 → ∀ b, b < 0 → a ≠ b → (TJxd2413 a).2.1 ≠ (TJxd2413 b).2.1 := by decide +kernel
theorem tyJxd2413_ok : ∀ k, k < 0 → parseFieldDescriptor (TJxd2413 k).2.2.1 = some (tyJxd2413 k) := by decide +kernel
def RJ0 : String := "java/lang/String"
def TJ0 : u_T := fun k => match k with
  | 0 => ("java/lang/String", "value", "[B", true)
  | 1 => ("java/lang/String", "coder", "B", true)
  | 2 => ("java/lang/String", "hash", "I", false)
  | _ => ("java/lang/String", "hashIsZero", "Z", false)
def tyJ0 : Nat → FieldType := fun k => match k with
  | 0 => .array .byte
  | 1 => .byte
  | 2 => .int
  | _ => .boolean
theorem nmJ0 : ∀ a, a < 4 → ∀ b, b < 4 → a ≠ b → (TJ0 a).2.1 ≠ (TJ0 b).2.1 := by decide +kernel
theorem tyJ0_ok : ∀ k, k < 4 → parseFieldDescriptor (TJ0 k).2.2.1 = some (tyJ0 k) := by decide +kernel
abbrev cJ0_init_81219 : ByteArray := prog_30_method_53_code
def yJ0_init_81219 : MethodName := ⟨RJ0, "<init>", "(Ljava/lang/StringBuilder;)V"⟩
abbrev cJ0_length_8abf5 : ByteArray := prog_30_method_54_code
def yJ0_length_8abf5 : MethodName := ⟨RJ0, "length", "()I"⟩
abbrev cJ0_charAt_5068e : ByteArray := prog_30_method_56_code
def yJ0_charAt_5068e : MethodName := ⟨RJ0, "charAt", "(I)C"⟩
abbrev cJ0_getBytes_840e7 : ByteArray := prog_30_method_147_code
def yJ0_getBytes_840e7 : MethodName := ⟨RJ0, "getBytes", "([BIB)V"⟩
abbrev cJ0_init_db425 : ByteArray := prog_30_method_150_code
def yJ0_init_db425 : MethodName := ⟨RJ0, "<init>", "(Ljava/lang/AbstractStringBuilder;Ljava/lang/Void;)V"⟩
abbrev cJ0_coder_7d493 : ByteArray := prog_30_method_152_code
def yJ0_coder_7d493 : MethodName := ⟨RJ0, "coder", "()B"⟩
abbrev cJ0_isLatin1_aae02 : ByteArray := prog_30_method_154_code
def yJ0_isLatin1_aae02 : MethodName := ⟨RJ0, "isLatin1", "()Z"⟩
abbrev cJ0_checkIndex_df160 : ByteArray := prog_30_method_155_code
def yJ0_checkIndex_df160 : MethodName := ⟨RJ0, "checkIndex", "(II)V"⟩
abbrev cJ0_checkBoundsOffCount_cabcc : ByteArray := prog_30_method_157_code
def yJ0_checkBoundsOffCount_cabcc : MethodName := ⟨RJ0, "checkBoundsOffCount", "(III)I"⟩
abbrev cJ0_checkBoundsBeginEnd_23922 : ByteArray := prog_30_method_158_code
def yJ0_checkBoundsBeginEnd_23922 : MethodName := ⟨RJ0, "checkBoundsBeginEnd", "(III)V"⟩
def RJ4 : String := "java/lang/StringBuilder"
def TJ4 : u_T := fun k => match k with
  | 0 => ("java/lang/AbstractStringBuilder", "value", "[B", false)
  | 1 => ("java/lang/AbstractStringBuilder", "coder", "B", false)
  | 2 => ("java/lang/AbstractStringBuilder", "maybeLatin1", "Z", false)
  | _ => ("java/lang/AbstractStringBuilder", "count", "I", false)
def tyJ4 : Nat → FieldType := fun k => match k with
  | 0 => .array .byte
  | 1 => .byte
  | 2 => .boolean
  | _ => .int
theorem nmJ4 : ∀ a, a < 4 → ∀ b, b < 4 → a ≠ b → (TJ4 a).2.1 ≠ (TJ4 b).2.1 := by decide +kernel
theorem tyJ4_ok : ∀ k, k < 4 → parseFieldDescriptor (TJ4 k).2.2.1 = some (tyJ4 k) := by decide +kernel
abbrev cJ4_init_da8c8 : ByteArray := prog_31_method_1_code
def yJ4_init_da8c8 : MethodName := ⟨RJ4, "<init>", "()V"⟩
abbrev cJ4_append_15ec4 : ByteArray := prog_31_method_7_code
def yJ4_append_15ec4 : MethodName := ⟨RJ4, "append", "(Ljava/lang/String;)Ljava/lang/StringBuilder;"⟩
abbrev cJ4_append_cf468 : ByteArray := prog_31_method_14_code
def yJ4_append_cf468 : MethodName := ⟨RJ4, "append", "(C)Ljava/lang/StringBuilder;"⟩
abbrev cJ4_append_bf812 : ByteArray := prog_31_method_15_code
def yJ4_append_bf812 : MethodName := ⟨RJ4, "append", "(I)Ljava/lang/StringBuilder;"⟩
abbrev cJ4_toString_0e30d : ByteArray := prog_31_method_42_code
def yJ4_toString_0e30d : MethodName := ⟨RJ4, "toString", "()Ljava/lang/String;"⟩
abbrev cJ4_length_8abf5 : ByteArray := prog_31_method_93_code
def yJ4_length_8abf5 : MethodName := ⟨RJ4, "length", "()I"⟩
def RJ1 : String := "java/lang/StringLatin1"
def TJ1 : u_T := fun k => match k with
  | _ => ("", "", "", false)
def tyJ1 : Nat → FieldType := fun k => match k with
  | _ => .int
theorem nmJ1 : ∀ a, a < 0 → ∀ b, b < 0 → a ≠ b → (TJ1 a).2.1 ≠ (TJ1 b).2.1 := by decide +kernel
theorem tyJ1_ok : ∀ k, k < 0 → parseFieldDescriptor (TJ1 k).2.2.1 = some (tyJ1 k) := by decide +kernel
abbrev cJ1_charAt_3b067 : ByteArray := prog_32_method_2_code
def yJ1_charAt_3b067 : MethodName := ⟨RJ1, "charAt", "([BI)C"⟩
abbrev cJ1_canEncode_fc78d : ByteArray := prog_32_method_3_code
def yJ1_canEncode_fc78d : MethodName := ⟨RJ1, "canEncode", "(C)Z"⟩
abbrev cJ1_inflate_0e8fd : ByteArray := prog_32_method_50_code
def yJ1_inflate_0e8fd : MethodName := ⟨RJ1, "inflate", "([BI[BII)V"⟩
def RJ2 : String := "java/lang/StringUTF16"
def TJ2 : u_T := fun k => match k with
  | _ => ("", "", "", false)
def tyJ2 : Nat → FieldType := fun k => match k with
  | _ => .int
theorem nmJ2 : ∀ a, a < 0 → ∀ b, b < 0 → a ≠ b → (TJ2 a).2.1 ≠ (TJ2 b).2.1 := by decide +kernel
theorem tyJ2_ok : ∀ k, k < 0 → parseFieldDescriptor (TJ2 k).2.2.1 = some (tyJ2 k) := by decide +kernel
abbrev cJ2_newBytesFor_77867 : ByteArray := prog_33_method_2_code
def yJ2_newBytesFor_77867 : MethodName := ⟨RJ2, "newBytesFor", "(I)[B"⟩
abbrev cJ2_newBytesLength_0f7a4 : ByteArray := prog_33_method_3_code
def yJ2_newBytesLength_0f7a4 : MethodName := ⟨RJ2, "newBytesLength", "(I)I"⟩
abbrev cJ2_putChar_b72d1 : ByteArray := prog_33_method_4_code
def yJ2_putChar_b72d1 : MethodName := ⟨RJ2, "putChar", "([BII)V"⟩
abbrev cJ2_getChar_3b067 : ByteArray := prog_33_method_5_code
def yJ2_getChar_3b067 : MethodName := ⟨RJ2, "getChar", "([BI)C"⟩
abbrev cJ2_length_9d52b : ByteArray := prog_33_method_6_code
def yJ2_length_9d52b : MethodName := ⟨RJ2, "length", "([B)I"⟩
abbrev cJ2_coderFromArrayLen_85cad : ByteArray := prog_33_method_15_code
def yJ2_coderFromArrayLen_85cad : MethodName := ⟨RJ2, "coderFromArrayLen", "([BI)B"⟩
abbrev cJ2_compress_39247 : ByteArray := prog_33_method_17_code
def yJ2_compress_39247 : MethodName := ⟨RJ2, "compress", "([BII)[B"⟩
abbrev cJ2_compress_5af95 : ByteArray := prog_33_method_22_code
def yJ2_compress_5af95 : MethodName := ⟨RJ2, "compress", "([BI[BII)I"⟩
abbrev cJ2_putCharSB_b72d1 : ByteArray := prog_33_method_71_code
def yJ2_putCharSB_b72d1 : MethodName := ⟨RJ2, "putCharSB", "([BII)V"⟩
abbrev cJ2_getChars_46870 : ByteArray := prog_33_method_77_code
def yJ2_getChars_46870 : MethodName := ⟨RJ2, "getChars", "(III[B)I"⟩
abbrev cJ2_putCharsAt_cd4e5 : ByteArray := prog_33_method_81_code
def yJ2_putCharsAt_cd4e5 : MethodName := ⟨RJ2, "putCharsAt", "([BICCCC)I"⟩
abbrev cJ2_charAt_3b067 : ByteArray := prog_33_method_83_code
def yJ2_charAt_3b067 : MethodName := ⟨RJ2, "charAt", "([BI)C"⟩
abbrev cJ2_inflate_0e8fd : ByteArray := prog_33_method_86_code
def yJ2_inflate_0e8fd : MethodName := ⟨RJ2, "inflate", "([BI[BII)V"⟩
abbrev cJ2_getChars_ba4f3 : ByteArray := prog_33_method_89_code
def yJ2_getChars_ba4f3 : MethodName := ⟨RJ2, "getChars", "(II[B)I"⟩
abbrev cJ2_checkIndex_2214a : ByteArray := prog_33_method_91_code
def yJ2_checkIndex_2214a : MethodName := ⟨RJ2, "checkIndex", "(I[B)V"⟩
abbrev cJ2_checkBoundsBeginEnd_d044e : ByteArray := prog_33_method_93_code
def yJ2_checkBoundsBeginEnd_d044e : MethodName := ⟨RJ2, "checkBoundsBeginEnd", "(II[B)V"⟩
abbrev cJ2_checkBoundsOffCount_d044e : ByteArray := prog_33_method_94_code
def yJ2_checkBoundsOffCount_d044e : MethodName := ⟨RJ2, "checkBoundsOffCount", "(II[B)V"⟩
def RJ10 : String := "java/lang/System"
def TJ10 : u_T := fun k => match k with
  | _ => ("", "", "", false)
def tyJ10 : Nat → FieldType := fun k => match k with
  | _ => .int
theorem nmJ10 : ∀ a, a < 0 → ∀ b, b < 0 → a ≠ b → (TJ10 a).2.1 ≠ (TJ10 b).2.1 := by decide +kernel
theorem tyJ10_ok : ∀ k, k < 0 → parseFieldDescriptor (TJ10 k).2.2.1 = some (tyJ10 k) := by decide +kernel
def RJxfd54e : String := "java/lang/constant/Constable"
def TJxfd54e : u_T := fun k => match k with
  | _ => ("", "", "", false)
def tyJxfd54e : Nat → FieldType := fun k => match k with
  | _ => .int
theorem nmJxfd54e : ∀ a, a < 0 → ∀ b, b < 0 → a ≠ b → (TJxfd54e a).2.1 ≠ (TJxfd54e b).2.1 := by decide +kernel
theorem tyJxfd54e_ok : ∀ k, k < 0 → parseFieldDescriptor (TJxfd54e k).2.2.1 = some (tyJxfd54e k) := by decide +kernel
def RJx3cf43 : String := "java/lang/constant/ConstantDesc"
def TJx3cf43 : u_T := fun k => match k with
  | _ => ("", "", "", false)
def tyJx3cf43 : Nat → FieldType := fun k => match k with
  | _ => .int
theorem nmJx3cf43 : ∀ a, a < 0 → ∀ b, b < 0 → a ≠ b → (TJx3cf43 a).2.1 ≠ (TJx3cf43 b).2.1 := by decide +kernel
theorem tyJx3cf43_ok : ∀ k, k < 0 → parseFieldDescriptor (TJx3cf43 k).2.2.1 = some (tyJx3cf43 k) := by decide +kernel
def RJxa1e45 : String := "java/util/AbstractCollection"
def TJxa1e45 : u_T := fun k => match k with
  | _ => ("", "", "", false)
def tyJxa1e45 : Nat → FieldType := fun k => match k with
  | _ => .int
theorem nmJxa1e45 : ∀ a, a < 0 → ∀ b, b < 0 → a ≠ b → (TJxa1e45 a).2.1 ≠ (TJxa1e45 b).2.1 := by decide +kernel
theorem tyJxa1e45_ok : ∀ k, k < 0 → parseFieldDescriptor (TJxa1e45 k).2.2.1 = some (tyJxa1e45 k) := by decide +kernel
abbrev cJxa1e45_init_da8c8 : ByteArray := prog_38_method_1_code
def yJxa1e45_init_da8c8 : MethodName := ⟨RJxa1e45, "<init>", "()V"⟩
def RJxc12de : String := "java/util/AbstractList"
def TJxc12de : u_T := fun k => match k with
  | _ => ("", "", "", false)
def tyJxc12de : Nat → FieldType := fun k => match k with
  | _ => .int
theorem nmJxc12de : ∀ a, a < 0 → ∀ b, b < 0 → a ≠ b → (TJxc12de a).2.1 ≠ (TJxc12de b).2.1 := by decide +kernel
theorem tyJxc12de_ok : ∀ k, k < 0 → parseFieldDescriptor (TJxc12de k).2.2.1 = some (tyJxc12de k) := by decide +kernel
abbrev cJxc12de_init_da8c8 : ByteArray := prog_39_method_1_code
def yJxc12de_init_da8c8 : MethodName := ⟨RJxc12de, "<init>", "()V"⟩
def RJx4a65c : String := "java/util/ArrayList"
def TJx4a65c : u_T := fun k => match k with
  | 0 => ("java/util/AbstractList", "modCount", "I", false)
  | 1 => ("java/util/ArrayList", "elementData", "[Ljava/lang/Object;", false)
  | _ => ("java/util/ArrayList", "size", "I", false)
def tyJx4a65c : Nat → FieldType := fun k => match k with
  | 0 => .int
  | 1 => .array (.object "java/lang/Object")
  | _ => .int
theorem nmJx4a65c : ∀ a, a < 3 → ∀ b, b < 3 → a ≠ b → (TJx4a65c a).2.1 ≠ (TJx4a65c b).2.1 := by decide +kernel
theorem tyJx4a65c_ok : ∀ k, k < 3 → parseFieldDescriptor (TJx4a65c k).2.2.1 = some (tyJx4a65c k) := by decide +kernel
abbrev cJx4a65c_init_da8c8 : ByteArray := prog_40_method_2_code
def yJx4a65c_init_da8c8 : MethodName := ⟨RJx4a65c, "<init>", "()V"⟩
abbrev cJx4a65c_grow_92f84 : ByteArray := prog_40_method_6_code
def yJx4a65c_grow_92f84 : MethodName := ⟨RJx4a65c, "grow", "(I)[Ljava/lang/Object;"⟩
abbrev cJx4a65c_grow_d5877 : ByteArray := prog_40_method_7_code
def yJx4a65c_grow_d5877 : MethodName := ⟨RJx4a65c, "grow", "()[Ljava/lang/Object;"⟩
abbrev cJx4a65c_size_8abf5 : ByteArray := prog_40_method_8_code
def yJx4a65c_size_8abf5 : MethodName := ⟨RJx4a65c, "size", "()I"⟩
abbrev cJx4a65c_elementData_915e3 : ByteArray := prog_40_method_18_code
def yJx4a65c_elementData_915e3 : MethodName := ⟨RJx4a65c, "elementData", "(I)Ljava/lang/Object;"⟩
abbrev cJx4a65c_get_915e3 : ByteArray := prog_40_method_20_code
def yJx4a65c_get_915e3 : MethodName := ⟨RJx4a65c, "get", "(I)Ljava/lang/Object;"⟩
abbrev cJx4a65c_set_bcc79 : ByteArray := prog_40_method_23_code
def yJx4a65c_set_bcc79 : MethodName := ⟨RJx4a65c, "set", "(ILjava/lang/Object;)Ljava/lang/Object;"⟩
abbrev cJx4a65c_add_72be8 : ByteArray := prog_40_method_24_code
def yJx4a65c_add_72be8 : MethodName := ⟨RJx4a65c, "add", "(Ljava/lang/Object;[Ljava/lang/Object;I)V"⟩
abbrev cJx4a65c_add_9ea2d : ByteArray := prog_40_method_25_code
def yJx4a65c_add_9ea2d : MethodName := ⟨RJx4a65c, "add", "(Ljava/lang/Object;)Z"⟩
abbrev cJx4a65c_remove_915e3 : ByteArray := prog_40_method_29_code
def yJx4a65c_remove_915e3 : MethodName := ⟨RJx4a65c, "remove", "(I)Ljava/lang/Object;"⟩
abbrev cJx4a65c_fastRemove_b59b0 : ByteArray := prog_40_method_39_code
def yJx4a65c_fastRemove_b59b0 : MethodName := ⟨RJx4a65c, "fastRemove", "([Ljava/lang/Object;I)V"⟩
def RJ7 : String := "java/util/Arrays"
def TJ7 : u_T := fun k => match k with
  | _ => ("", "", "", false)
def tyJ7 : Nat → FieldType := fun k => match k with
  | _ => .int
theorem nmJ7 : ∀ a, a < 0 → ∀ b, b < 0 → a ≠ b → (TJ7 a).2.1 ≠ (TJ7 b).2.1 := by decide +kernel
theorem tyJ7_ok : ∀ k, k < 0 → parseFieldDescriptor (TJ7 k).2.2.1 = some (tyJ7 k) := by decide +kernel
abbrev cJ7_copyOf_1904c : ByteArray := prog_41_method_119_code
def yJ7_copyOf_1904c : MethodName := ⟨RJ7, "copyOf", "([Ljava/lang/Object;I)[Ljava/lang/Object;"⟩
abbrev cJ7_copyOf_6403c : ByteArray := prog_41_method_120_code
def yJ7_copyOf_6403c : MethodName := ⟨RJ7, "copyOf", "([Ljava/lang/Object;ILjava/lang/Class;)[Ljava/lang/Object;"⟩
abbrev cJ7_copyOf_9075b : ByteArray := prog_41_method_121_code
def yJ7_copyOf_9075b : MethodName := ⟨RJ7, "copyOf", "([BI)[B"⟩
abbrev cJ7_checkLength_df160 : ByteArray := prog_41_method_131_code
def yJ7_checkLength_df160 : MethodName := ⟨RJ7, "checkLength", "(II)V"⟩
abbrev cJ7_copyOfRange_39247 : ByteArray := prog_41_method_132_code
def yJ7_copyOfRange_39247 : MethodName := ⟨RJ7, "copyOfRange", "([BII)[B"⟩
abbrev cJ7_copyOfRangeByte_39247 : ByteArray := prog_41_method_133_code
def yJ7_copyOfRangeByte_39247 : MethodName := ⟨RJ7, "copyOfRangeByte", "([BII)[B"⟩
def RJx5ef63 : String := "java/util/Collection"
def TJx5ef63 : u_T := fun k => match k with
  | _ => ("", "", "", false)
def tyJx5ef63 : Nat → FieldType := fun k => match k with
  | _ => .int
theorem nmJx5ef63 : ∀ a, a < 0 → ∀ b, b < 0 → a ≠ b → (TJx5ef63 a).2.1 ≠ (TJx5ef63 b).2.1 := by decide +kernel
theorem tyJx5ef63_ok : ∀ k, k < 0 → parseFieldDescriptor (TJx5ef63 k).2.2.1 = some (tyJx5ef63 k) := by decide +kernel
def RJxbd725 : String := "java/util/List"
def TJxbd725 : u_T := fun k => match k with
  | _ => ("", "", "", false)
def tyJxbd725 : Nat → FieldType := fun k => match k with
  | _ => .int
theorem nmJxbd725 : ∀ a, a < 0 → ∀ b, b < 0 → a ≠ b → (TJxbd725 a).2.1 ≠ (TJxbd725 b).2.1 := by decide +kernel
theorem tyJxbd725_ok : ∀ k, k < 0 → parseFieldDescriptor (TJxbd725 k).2.2.1 = some (tyJxbd725 k) := by decide +kernel
def RJ15 : String := "java/util/Objects"
def TJ15 : u_T := fun k => match k with
  | _ => ("", "", "", false)
def tyJ15 : Nat → FieldType := fun k => match k with
  | _ => .int
theorem nmJ15 : ∀ a, a < 0 → ∀ b, b < 0 → a ≠ b → (TJ15 a).2.1 ≠ (TJ15 b).2.1 := by decide +kernel
theorem tyJ15_ok : ∀ k, k < 0 → parseFieldDescriptor (TJ15 k).2.2.1 = some (tyJ15 k) := by decide +kernel
abbrev cJ15_checkIndex_7cf53 : ByteArray := prog_44_method_17_code
def yJ15_checkIndex_7cf53 : MethodName := ⟨RJ15, "checkIndex", "(II)I"⟩
def RJxf0a74 : String := "java/util/RandomAccess"
def TJxf0a74 : u_T := fun k => match k with
  | _ => ("", "", "", false)
def tyJxf0a74 : Nat → FieldType := fun k => match k with
  | _ => .int
theorem nmJxf0a74 : ∀ a, a < 0 → ∀ b, b < 0 → a ≠ b → (TJxf0a74 a).2.1 ≠ (TJxf0a74 b).2.1 := by decide +kernel
theorem tyJxf0a74_ok : ∀ k, k < 0 → parseFieldDescriptor (TJxf0a74 k).2.2.1 = some (tyJxf0a74 k) := by decide +kernel
def RJxa66e6 : String := "java/util/SequencedCollection"
def TJxa66e6 : u_T := fun k => match k with
  | _ => ("", "", "", false)
def tyJxa66e6 : Nat → FieldType := fun k => match k with
  | _ => .int
theorem nmJxa66e6 : ∀ a, a < 0 → ∀ b, b < 0 → a ≠ b → (TJxa66e6 a).2.1 ≠ (TJxa66e6 b).2.1 := by decide +kernel
theorem tyJxa66e6_ok : ∀ k, k < 0 → parseFieldDescriptor (TJxa66e6 k).2.2.1 = some (tyJxa66e6 k) := by decide +kernel
def RJ8 : String := "jdk/internal/util/ArraysSupport"
def TJ8 : u_T := fun k => match k with
  | _ => ("", "", "", false)
def tyJ8 : Nat → FieldType := fun k => match k with
  | _ => .int
theorem nmJ8 : ∀ a, a < 0 → ∀ b, b < 0 → a ≠ b → (TJ8 a).2.1 ≠ (TJ8 b).2.1 := by decide +kernel
theorem tyJ8_ok : ∀ k, k < 0 → parseFieldDescriptor (TJ8 k).2.2.1 = some (tyJ8 k) := by decide +kernel
abbrev cJ8_newLength_cabcc : ByteArray := prog_47_method_27_code
def yJ8_newLength_cabcc : MethodName := ⟨RJ8, "newLength", "(III)I"⟩
abbrev cJ8_hugeLength_7cf53 : ByteArray := prog_47_method_28_code
def yJ8_hugeLength_7cf53 : MethodName := ⟨RJ8, "hugeLength", "(II)I"⟩
def RJ3 : String := "jdk/internal/util/Preconditions"
def TJ3 : u_T := fun k => match k with
  | _ => ("", "", "", false)
def tyJ3 : Nat → FieldType := fun k => match k with
  | _ => .int
theorem nmJ3 : ∀ a, a < 0 → ∀ b, b < 0 → a ≠ b → (TJ3 a).2.1 ≠ (TJ3 b).2.1 := by decide +kernel
theorem tyJ3_ok : ∀ k, k < 0 → parseFieldDescriptor (TJ3 k).2.2.1 = some (tyJ3 k) := by decide +kernel
abbrev cJ3_checkIndex_8e157 : ByteArray := prog_48_method_11_code
def yJ3_checkIndex_8e157 : MethodName := ⟨RJ3, "checkIndex", "(IILjava/util/function/BiFunction;)I"⟩
abbrev cJ3_checkFromToIndex_8c36e : ByteArray := prog_48_method_12_code
def yJ3_checkFromToIndex_8c36e : MethodName := ⟨RJ3, "checkFromToIndex", "(IIILjava/util/function/BiFunction;)I"⟩
abbrev cJ3_checkFromIndexSize_8c36e : ByteArray := prog_48_method_13_code
def yJ3_checkFromIndexSize_8c36e : MethodName := ⟨RJ3, "checkFromIndexSize", "(IIILjava/util/function/BiFunction;)I"⟩
def RL : String := "HopRulesLaw"
abbrev cL_host : ByteArray := method_3_code
def yL_host : MethodName := ⟨RL, "host", "(LHopRules;IIZ[J)I"⟩
abbrev cL_toggleSuffix : ByteArray := method_4_code
def yL_toggleSuffix : MethodName := ⟨RL, "toggleSuffix", "(LHopRules;I[J)I"⟩
abbrev cL_site : ByteArray := method_5_code
def yL_site : MethodName := ⟨RL, "site", "(LHopRules;I[J)I"⟩
abbrev cL_address : ByteArray := method_6_code
def yL_address : MethodName := ⟨RL, "address", "(LHopRules;IIII[J)I"⟩
abbrev cL_resolve : ByteArray := method_7_code
def yL_resolve : MethodName := ⟨RL, "resolve", "(LHopRules;II[J)I"⟩
abbrev cL_text : ByteArray := method_8_code
def yL_text : MethodName := ⟨RL, "text", "(LHopRules;II[J)I"⟩
abbrev cL_redirect : ByteArray := method_9_code
def yL_redirect : MethodName := ⟨RL, "redirect", "(LHopRules;III)I"⟩
abbrev cL_allow : ByteArray := method_10_code
def yL_allow : MethodName := ⟨RL, "allow", "(LHopRules;IIZII)I"⟩
abbrev cL_setsCookie : ByteArray := method_11_code
def yL_setsCookie : MethodName := ⟨RL, "setsCookie", "(LHopRules;IIIIIII)I"⟩
abbrev cL_page : ByteArray := method_12_code
def yL_page : MethodName := ⟨RL, "page", "(LHopRules;III[J)I"⟩
abbrev cL_request : ByteArray := method_13_code
def yL_request : MethodName := ⟨RL, "request", "(LHopRules;IIIIIZ[J)I"⟩
abbrev cL_pass : ByteArray := method_14_code
def yL_pass : MethodName := ⟨RL, "pass", "(LHopRules;I[J)I"⟩
abbrev cL_hops : ByteArray := method_15_code
def yL_hops : MethodName := ⟨RL, "hops", "(LHopRules;I[J)I"⟩
abbrev cL_hop : ByteArray := method_16_code
def yL_hop : MethodName := ⟨RL, "hop", "(LHopRules;II[J)I"⟩
abbrev cL_sent : ByteArray := method_17_code
def yL_sent : MethodName := ⟨RL, "sent", "(LHopRules;III[J)I"⟩
abbrev cL_judged : ByteArray := method_18_code
def yL_judged : MethodName := ⟨RL, "judged", "(LHopRules;I[J)I"⟩
abbrev cL_cookie : ByteArray := method_19_code
def yL_cookie : MethodName := ⟨RL, "cookie", "(LHopRules;I[J)I"⟩
abbrev cL_count : ByteArray := method_20_code
def yL_count : MethodName := ⟨RL, "count", "(LHopRules;I[J)I"⟩
abbrev cL_law : ByteArray := code
def yL_law : MethodName := ⟨RL, "law", "([I)Z"⟩
