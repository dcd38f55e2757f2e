/-! way(), chain(), rings(), roots(): answers alike. -/
